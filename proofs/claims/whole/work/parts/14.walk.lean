/-! walks, by program: ['X4'] -/
theorem dX4_isDigit_0 : decode cX4_isDigit 0 = .ok (.iload_n 0, 1) := by decide +kernel
theorem dX4_isDigit_1 : decode cX4_isDigit 1 = .ok (.bipush 48, 2) := by decide +kernel
theorem dX4_isDigit_3 : decode cX4_isDigit 3 = .ok (.if_icmp .lt 13, 3) := by decide +kernel
theorem dX4_isDigit_6 : decode cX4_isDigit 6 = .ok (.iload_n 0, 1) := by decide +kernel
theorem dX4_isDigit_7 : decode cX4_isDigit 7 = .ok (.bipush 57, 2) := by decide +kernel
theorem dX4_isDigit_9 : decode cX4_isDigit 9 = .ok (.if_icmp .gt 7, 3) := by decide +kernel
theorem dX4_isDigit_12 : decode cX4_isDigit 12 = .ok (.iconst 1, 1) := by decide +kernel
theorem dX4_isDigit_13 : decode cX4_isDigit 13 = .ok (.goto 4, 3) := by decide +kernel
theorem dX4_isDigit_16 : decode cX4_isDigit 16 = .ok (.iconst 0, 1) := by decide +kernel
theorem dX4_isDigit_17 : decode cX4_isDigit 17 = .ok (.ireturn, 1) := by decide +kernel
abbrev rm_X4_isDigit : Room := { frames := 0, cells := 0, slots := 0, locals := 0 }
theorem w_X4_isDigit_b17 {C : zC} (hx : z_ok C cX4_isDigit RX4 0) (hn : z_nL C = 1) (hR : z_R C = rm_X4_isDigit) {rr : Int × zS} (hq : z_fin C (some .boolean) (z_QI (z_g C) rr.1 rr.2)) (σ : zS) (s0 : Int) (h : f_X4_isDigit_b17 σ s0 = some rr) : z_W C σ 17 [] [.int (zi s0)] := by
  unfold f_X4_isDigit_b17 at h
  obtain ⟨hz, h⟩ := z_gd h
  cases h
  exact z_zret hx hz hq dX4_isDigit_17

theorem w_X4_isDigit_b16 {C : zC} (hx : z_ok C cX4_isDigit RX4 0) (hn : z_nL C = 1) (hR : z_R C = rm_X4_isDigit) {rr : Int × zS} (hq : z_fin C (some .boolean) (z_QI (z_g C) rr.1 rr.2)) (σ : zS) (h : f_X4_isDigit_b16 σ = some rr) : z_W C σ 16 [] [] := by
  unfold f_X4_isDigit_b16 at h
  refine z_iconst hx (n := 0) dX4_isDigit_16 ?_
  refine z_sub [] rfl ?_
  exact w_X4_isDigit_b17 hx hn hR hq σ 0 h

theorem w_X4_isDigit {C : zC} (hx : z_ok C cX4_isDigit RX4 0) (hn : z_nL C = 1) (hR : z_R C = rm_X4_isDigit) {rr : Int × zS} (hq : z_fin C (some .boolean) (z_QI (z_g C) rr.1 rr.2)) (σ : zS) (x0 : Int) (h : f_X4_isDigit σ x0 = some rr) : z_W C σ 0 [(0, .int (zi x0))] [] := by
  unfold f_X4_isDigit at h
  refine z_iload_n hx 0 dX4_isDigit_0 rfl ?_
  refine z_bipush hx (n := 48) dX4_isDigit_1 rfl ?_
  refine z_icmp_lt hx (tgt := 16) dX4_isDigit_3 (by decide) h (fun h => ⟨h, by decide⟩) (fun hc h => ?_) (fun hc h => ?_)
  · refine z_sub [] rfl ?_
    exact w_X4_isDigit_b16 hx hn hR hq σ h
  · refine z_iload_n hx 0 dX4_isDigit_6 rfl ?_
    refine z_bipush hx (n := 57) dX4_isDigit_7 rfl ?_
    refine z_icmp_gt hx (tgt := 16) dX4_isDigit_9 (by decide) h (fun h => ⟨h, by decide⟩) (fun hc h => ?_) (fun hc h => ?_)
    · refine z_sub [] rfl ?_
      exact w_X4_isDigit_b16 hx hn hR hq σ h
    · refine z_iconst hx (n := 1) dX4_isDigit_12 ?_
      refine z_goto hx (tgt := 17) dX4_isDigit_13 (by decide) ?_
      refine z_sub [] rfl ?_
      exact w_X4_isDigit_b17 hx hn hR hq σ 1 h

theorem met_X4_isDigit (l : Launch) (g : zG) (hg : g.1 = 0) {σ : zS} {x0 : Int} {rr : Int × zS} (h : f_X4_isDigit σ x0 = some rr) : z_Met l yX4_isDigit cX4_isDigit 1 (some .boolean) rm_X4_isDigit g [.int (zi x0)] σ (z_QI g rr.1 rr.2) := by
  refine z_enter (own := RX4) (sd := 0) (lv0 := [(0, .int (zi x0))]) (by decide) rfl (Nat.le_of_ble_eq_true rfl) hg rfl (fun C hx hl hgC hR hn hq => ?_)
  subst hgC
  refine z_sub [0] rfl ?_
  exact w_X4_isDigit hx hn hR hq σ x0 h
theorem dX4_takesOutside_0 : decode cX4_takesOutside 0 = .ok (.iload_n 1, 1) := by decide +kernel
theorem dX4_takesOutside_1 : decode cX4_takesOutside 1 = .ok (.invokestatic 48, 3) := by decide +kernel
theorem dX4_takesOutside_4 : decode cX4_takesOutside 4 = .ok (.ifCond .eq 16, 3) := by decide +kernel
theorem dX4_takesOutside_7 : decode cX4_takesOutside 7 = .ok (.aload_n 0, 1) := by decide +kernel
theorem dX4_takesOutside_8 : decode cX4_takesOutside 8 = .ok (.getfield 12, 3) := by decide +kernel
theorem dX4_takesOutside_11 : decode cX4_takesOutside 11 = .ok (.iload_n 1, 1) := by decide +kernel
theorem dX4_takesOutside_12 : decode cX4_takesOutside 12 = .ok (.bipush 48, 2) := by decide +kernel
theorem dX4_takesOutside_14 : decode cX4_takesOutside 14 = .ok (.isub, 1) := by decide +kernel
theorem dX4_takesOutside_15 : decode cX4_takesOutside 15 = .ok (.invokevirtual 51, 3) := by decide +kernel
theorem dX4_takesOutside_18 : decode cX4_takesOutside 18 = .ok (.iconst 1, 1) := by decide +kernel
theorem dX4_takesOutside_19 : decode cX4_takesOutside 19 = .ok (.ireturn, 1) := by decide +kernel
theorem dX4_takesOutside_20 : decode cX4_takesOutside 20 = .ok (.iload_n 1, 1) := by decide +kernel
theorem dX4_takesOutside_21 : decode cX4_takesOutside 21 = .ok (.bipush 91, 2) := by decide +kernel
theorem dX4_takesOutside_23 : decode cX4_takesOutside 23 = .ok (.if_icmp .ne 15, 3) := by decide +kernel
theorem dX4_takesOutside_26 : decode cX4_takesOutside 26 = .ok (.aload_n 0, 1) := by decide +kernel
theorem dX4_takesOutside_27 : decode cX4_takesOutside 27 = .ok (.getfield 12, 3) := by decide +kernel
theorem dX4_takesOutside_30 : decode cX4_takesOutside 30 = .ok (.getfield 55, 3) := by decide +kernel
theorem dX4_takesOutside_33 : decode cX4_takesOutside 33 = .ok (.bipush 20, 2) := by decide +kernel
theorem dX4_takesOutside_35 : decode cX4_takesOutside 35 = .ok (.if_icmp .lt 5, 3) := by decide +kernel
theorem dX4_takesOutside_38 : decode cX4_takesOutside 38 = .ok (.iconst 0, 1) := by decide +kernel
theorem dX4_takesOutside_39 : decode cX4_takesOutside 39 = .ok (.ireturn, 1) := by decide +kernel
theorem dX4_takesOutside_40 : decode cX4_takesOutside 40 = .ok (.aload_n 0, 1) := by decide +kernel
theorem dX4_takesOutside_41 : decode cX4_takesOutside 41 = .ok (.iconst 1, 1) := by decide +kernel
theorem dX4_takesOutside_42 : decode cX4_takesOutside 42 = .ok (.putfield 21, 3) := by decide +kernel
theorem dX4_takesOutside_45 : decode cX4_takesOutside 45 = .ok (.iconst 1, 1) := by decide +kernel
theorem dX4_takesOutside_46 : decode cX4_takesOutside 46 = .ok (.ireturn, 1) := by decide +kernel
abbrev rm_X4_takesOutside : Room := { frames := 1, cells := 0, slots := 0, locals := 21 }
theorem w_X4_takesOutside_b38 {C : zC} (hx : z_ok C cX4_takesOutside RX4 0) (hn : z_nL C = 2) (hR : z_R C = rm_X4_takesOutside) {rr : Int × zS} (hq : z_fin C (some .boolean) (z_QI (z_g C) rr.1 rr.2)) (σ : zS) (h : f_X4_takesOutside_b38 σ = some rr) : z_W C σ 38 [] [] := by
  unfold f_X4_takesOutside_b38 at h
  refine z_iconst hx (n := 0) dX4_takesOutside_38 ?_
  cases h
  exact z_zret hx (by decide) hq dX4_takesOutside_39

theorem w_X4_takesOutside {C : zC} (hx : z_ok C cX4_takesOutside RX4 0) (hn : z_nL C = 2) (hR : z_R C = rm_X4_takesOutside) {rr : Int × zS} (hq : z_fin C (some .boolean) (z_QI (z_g C) rr.1 rr.2)) (σ : zS) (x1 : Int) (h : f_X4_takesOutside σ x1 = some rr) : z_W C σ 0 [(0, .ref (z_ad (z_g C) 59)), (1, .int (zi x1))] [] := by
  unfold f_X4_takesOutside at h
  refine z_iload_n hx 1 dX4_takesOutside_0 rfl ?_
  obtain ⟨r2, σ1, h1, h⟩ := z_bind_some h
  refine z_calls hx (As := [.int (zi x1)]) (met_X4_isDigit (z_l C) (z_g C) (z_ok_sd hx) h1) cv_X4_48 (z_room hR ⟨Nat.le_of_ble_eq_true rfl, Nat.le_of_ble_eq_true rfl⟩) ⟨rfl, rfl⟩ rfl rfl (Nat.le_of_ble_eq_true rfl) dX4_takesOutside_1 ?_
  refine z_if_eq hx (tgt := 20) dX4_takesOutside_4 (by decide) h (fun h => h) (fun hc h => ?_) (fun hc h => ?_)
  · refine z_iload_n hx 1 dX4_takesOutside_20 rfl ?_
    refine z_bipush hx (n := 91) dX4_takesOutside_21 rfl ?_
    refine z_icmp_ne hx (tgt := 38) dX4_takesOutside_23 (by decide) h (fun h => ⟨h, by decide⟩) (fun hc h => ?_) (fun hc h => ?_)
    · refine z_sub [] rfl ?_
      exact w_X4_takesOutside_b38 hx hn hR hq σ1 h
    · refine z_aload_n hx 0 dX4_takesOutside_26 rfl ?_
      refine gf_X4_draft hx wf_X4_12 dX4_takesOutside_27 ?_
      refine gf_X2_marks hx wf_X4_55 (show 5 < 6 by decide) dX4_takesOutside_30 ?_
      refine z_bipush hx (n := 20) dX4_takesOutside_33 rfl ?_
      refine z_icmp_lt hx (tgt := 40) dX4_takesOutside_35 (by decide) h (fun h => ⟨h, by decide⟩) (fun hc h => ?_) (fun hc h => ?_)
      · refine z_aload_n hx 0 dX4_takesOutside_40 rfl ?_
        refine z_iconst hx (n := 1) dX4_takesOutside_41 ?_
        refine pf_X4_stage hx wf_X4_21 dX4_takesOutside_42 h (fun σ3 h => ?_)
        refine z_iconst hx (n := 1) dX4_takesOutside_45 ?_
        cases h
        exact z_zret hx (by decide) hq dX4_takesOutside_46
      · refine z_sub [] rfl ?_
        exact w_X4_takesOutside_b38 hx hn hR hq σ1 h
  · refine z_aload_n hx 0 dX4_takesOutside_7 rfl ?_
    refine gf_X4_draft hx wf_X4_12 dX4_takesOutside_8 ?_
    refine z_iload_n hx 1 dX4_takesOutside_11 rfl ?_
    refine z_bipush hx (n := 48) dX4_takesOutside_12 rfl ?_
    refine z_isub hx dX4_takesOutside_14 ?_
    obtain ⟨⟨⟩, σ4, h15, h⟩ := z_bind_some h
    refine z_callv hx (As := [.int (zi (x1 - 48))]) (k := 40) (met_X2_addFrame (z_l C) (z_g C) (z_ok_sd hx) (show 5 < 6 by decide) h15) (z_lt0 (z_ok_sd hx) (by decide)) (z_ka0 (z_ok_sd hx) (show 5 < 6 by decide) _) rfl rfl cv_X4_51 (z_room hR ⟨Nat.le_of_ble_eq_true rfl, Nat.le_of_ble_eq_true rfl⟩) ⟨rfl, rfl⟩ rfl rfl (Nat.le_of_ble_eq_true rfl) dX4_takesOutside_15 ?_
    refine z_iconst hx (n := 1) dX4_takesOutside_18 ?_
    cases h
    exact z_zret hx (by decide) hq dX4_takesOutside_19

theorem met_X4_takesOutside (l : Launch) (g : zG) (hg : g.1 = 0) {σ : zS} {x1 : Int} {rr : Int × zS} (h : f_X4_takesOutside σ x1 = some rr) : z_Met l yX4_takesOutside cX4_takesOutside 2 (some .boolean) rm_X4_takesOutside g [.ref (z_ad (g) 59), .int (zi x1)] σ (z_QI g rr.1 rr.2) := by
  refine z_enter (own := RX4) (sd := 0) (lv0 := [(0, .ref (z_ad (g) 59)), (1, .int (zi x1))]) (by decide) rfl (Nat.le_of_ble_eq_true rfl) hg rfl (fun C hx hl hgC hR hn hq => ?_)
  subst hgC
  refine z_sub [0, 1] rfl ?_
  exact w_X4_takesOutside hx hn hR hq σ x1 h
theorem dX4_takesKind_0 : decode cX4_takesKind 0 = .ok (.aload_n 0, 1) := by decide +kernel
theorem dX4_takesKind_1 : decode cX4_takesKind 1 = .ok (.iconst 0, 1) := by decide +kernel
theorem dX4_takesKind_2 : decode cX4_takesKind 2 = .ok (.putfield 58, 3) := by decide +kernel
theorem dX4_takesKind_5 : decode cX4_takesKind 5 = .ok (.aload_n 0, 1) := by decide +kernel
theorem dX4_takesKind_6 : decode cX4_takesKind 6 = .ok (.iconst 0, 1) := by decide +kernel
theorem dX4_takesKind_7 : decode cX4_takesKind 7 = .ok (.putfield 61, 3) := by decide +kernel
theorem dX4_takesKind_10 : decode cX4_takesKind 10 = .ok (.aload_n 0, 1) := by decide +kernel
theorem dX4_takesKind_11 : decode cX4_takesKind 11 = .ok (.iconst 3, 1) := by decide +kernel
theorem dX4_takesKind_12 : decode cX4_takesKind 12 = .ok (.putfield 21, 3) := by decide +kernel
theorem dX4_takesKind_15 : decode cX4_takesKind 15 = .ok (.iload_n 1, 1) := by decide +kernel
theorem dX4_takesKind_16 : decode cX4_takesKind 16 = .ok (.lookupswitch 77 #[(98, 56), (102, 44), (110, 70), (114, 63)], 44) := by decide +kernel
theorem dX4_takesKind_60 : decode cX4_takesKind 60 = .ok (.aload_n 0, 1) := by decide +kernel
theorem dX4_takesKind_61 : decode cX4_takesKind 61 = .ok (.iconst 0, 1) := by decide +kernel
theorem dX4_takesKind_62 : decode cX4_takesKind 62 = .ok (.putfield 64, 3) := by decide +kernel
theorem dX4_takesKind_65 : decode cX4_takesKind 65 = .ok (.aload_n 0, 1) := by decide +kernel
theorem dX4_takesKind_66 : decode cX4_takesKind 66 = .ok (.iconst 2, 1) := by decide +kernel
theorem dX4_takesKind_67 : decode cX4_takesKind 67 = .ok (.putfield 21, 3) := by decide +kernel
theorem dX4_takesKind_70 : decode cX4_takesKind 70 = .ok (.iconst 1, 1) := by decide +kernel
theorem dX4_takesKind_71 : decode cX4_takesKind 71 = .ok (.ireturn, 1) := by decide +kernel
theorem dX4_takesKind_72 : decode cX4_takesKind 72 = .ok (.aload_n 0, 1) := by decide +kernel
theorem dX4_takesKind_73 : decode cX4_takesKind 73 = .ok (.iconst 1, 1) := by decide +kernel
theorem dX4_takesKind_74 : decode cX4_takesKind 74 = .ok (.putfield 64, 3) := by decide +kernel
theorem dX4_takesKind_77 : decode cX4_takesKind 77 = .ok (.iconst 1, 1) := by decide +kernel
theorem dX4_takesKind_78 : decode cX4_takesKind 78 = .ok (.ireturn, 1) := by decide +kernel
theorem dX4_takesKind_79 : decode cX4_takesKind 79 = .ok (.aload_n 0, 1) := by decide +kernel
theorem dX4_takesKind_80 : decode cX4_takesKind 80 = .ok (.iconst 2, 1) := by decide +kernel
theorem dX4_takesKind_81 : decode cX4_takesKind 81 = .ok (.putfield 64, 3) := by decide +kernel
theorem dX4_takesKind_84 : decode cX4_takesKind 84 = .ok (.iconst 1, 1) := by decide +kernel
theorem dX4_takesKind_85 : decode cX4_takesKind 85 = .ok (.ireturn, 1) := by decide +kernel
theorem dX4_takesKind_86 : decode cX4_takesKind 86 = .ok (.aload_n 0, 1) := by decide +kernel
theorem dX4_takesKind_87 : decode cX4_takesKind 87 = .ok (.iconst 3, 1) := by decide +kernel
theorem dX4_takesKind_88 : decode cX4_takesKind 88 = .ok (.putfield 64, 3) := by decide +kernel
theorem dX4_takesKind_91 : decode cX4_takesKind 91 = .ok (.iconst 1, 1) := by decide +kernel
theorem dX4_takesKind_92 : decode cX4_takesKind 92 = .ok (.ireturn, 1) := by decide +kernel
theorem dX4_takesKind_93 : decode cX4_takesKind 93 = .ok (.iconst 0, 1) := by decide +kernel
theorem dX4_takesKind_94 : decode cX4_takesKind 94 = .ok (.ireturn, 1) := by decide +kernel
abbrev rm_X4_takesKind : Room := { frames := 0, cells := 0, slots := 0, locals := 0 }
theorem w_X4_takesKind {C : zC} (hx : z_ok C cX4_takesKind RX4 0) (hn : z_nL C = 2) (hR : z_R C = rm_X4_takesKind) {rr : Int × zS} (hq : z_fin C (some .boolean) (z_QI (z_g C) rr.1 rr.2)) (σ : zS) (x1 : Int) (h : f_X4_takesKind σ x1 = some rr) : z_W C σ 0 [(0, .ref (z_ad (z_g C) 59)), (1, .int (zi x1))] [] := by
  unfold f_X4_takesKind at h
  refine z_aload_n hx 0 dX4_takesKind_0 rfl ?_
  refine z_iconst hx (n := 0) dX4_takesKind_1 ?_
  refine pf_X4_doubt hx wf_X4_58 dX4_takesKind_2 h (fun σ1 h => ?_)
  refine z_aload_n hx 0 dX4_takesKind_5 rfl ?_
  refine z_iconst hx (n := 0) dX4_takesKind_6 ?_
  refine pf_X4_doubtDigits hx wf_X4_61 dX4_takesKind_7 h (fun σ2 h => ?_)
  refine z_aload_n hx 0 dX4_takesKind_10 rfl ?_
  refine z_iconst hx (n := 3) dX4_takesKind_11 ?_
  refine pf_X4_stage hx wf_X4_21 dX4_takesKind_12 h (fun σ3 h => ?_)
  refine z_iload_n hx 1 dX4_takesKind_15 rfl ?_
  obtain ⟨hr, h⟩ := z_gd h
  by_cases hc0 : x1 = 98
  · rw [if_pos hc0] at h
    refine z_lookup hx (tgt := 72) (off := 56) dX4_takesKind_16 (by decide) hr (by rw [hc0]; rfl) (by decide) ?_
    refine z_aload_n hx 0 dX4_takesKind_72 rfl ?_
    refine z_iconst hx (n := 1) dX4_takesKind_73 ?_
    refine pf_X4_kind hx wf_X4_64 dX4_takesKind_74 h (fun σ8 h => ?_)
    refine z_iconst hx (n := 1) dX4_takesKind_77 ?_
    cases h
    exact z_zret hx (by decide) hq dX4_takesKind_78
  · rw [if_neg hc0] at h
    by_cases hc1 : x1 = 102
    · rw [if_pos hc1] at h
      refine z_lookup hx (tgt := 60) (off := 44) dX4_takesKind_16 (by decide) hr (by rw [hc1]; rfl) (by decide) ?_
      refine z_aload_n hx 0 dX4_takesKind_60 rfl ?_
      refine z_iconst hx (n := 0) dX4_takesKind_61 ?_
      refine pf_X4_kind hx wf_X4_64 dX4_takesKind_62 h (fun σ6 h => ?_)
      refine z_aload_n hx 0 dX4_takesKind_65 rfl ?_
      refine z_iconst hx (n := 2) dX4_takesKind_66 ?_
      refine pf_X4_stage hx wf_X4_21 dX4_takesKind_67 h (fun σ7 h => ?_)
      refine z_iconst hx (n := 1) dX4_takesKind_70 ?_
      cases h
      exact z_zret hx (by decide) hq dX4_takesKind_71
    · rw [if_neg hc1] at h
      by_cases hc2 : x1 = 110
      · rw [if_pos hc2] at h
        refine z_lookup hx (tgt := 86) (off := 70) dX4_takesKind_16 (by decide) hr (by rw [hc2]; rfl) (by decide) ?_
        refine z_aload_n hx 0 dX4_takesKind_86 rfl ?_
        refine z_iconst hx (n := 3) dX4_takesKind_87 ?_
        refine pf_X4_kind hx wf_X4_64 dX4_takesKind_88 h (fun σ5 h => ?_)
        refine z_iconst hx (n := 1) dX4_takesKind_91 ?_
        cases h
        exact z_zret hx (by decide) hq dX4_takesKind_92
      · rw [if_neg hc2] at h
        by_cases hc3 : x1 = 114
        · rw [if_pos hc3] at h
          refine z_lookup hx (tgt := 79) (off := 63) dX4_takesKind_16 (by decide) hr (by rw [hc3]; rfl) (by decide) ?_
          refine z_aload_n hx 0 dX4_takesKind_79 rfl ?_
          refine z_iconst hx (n := 2) dX4_takesKind_80 ?_
          refine pf_X4_kind hx wf_X4_64 dX4_takesKind_81 h (fun σ4 h => ?_)
          refine z_iconst hx (n := 1) dX4_takesKind_84 ?_
          cases h
          exact z_zret hx (by decide) hq dX4_takesKind_85
        · rw [if_neg hc3] at h
          refine z_lookup hx (tgt := 93) (off := 77) dX4_takesKind_16 (by decide) hr (z_lk4 hc0 hc1 hc2 hc3) (by decide) ?_
          refine z_iconst hx (n := 0) dX4_takesKind_93 ?_
          cases h
          exact z_zret hx (by decide) hq dX4_takesKind_94

theorem met_X4_takesKind (l : Launch) (g : zG) (hg : g.1 = 0) {σ : zS} {x1 : Int} {rr : Int × zS} (h : f_X4_takesKind σ x1 = some rr) : z_Met l yX4_takesKind cX4_takesKind 2 (some .boolean) rm_X4_takesKind g [.ref (z_ad (g) 59), .int (zi x1)] σ (z_QI g rr.1 rr.2) := by
  refine z_enter (own := RX4) (sd := 0) (lv0 := [(0, .ref (z_ad (g) 59)), (1, .int (zi x1))]) (by decide) rfl (Nat.le_of_ble_eq_true rfl) hg rfl (fun C hx hl hgC hR hn hq => ?_)
  subst hgC
  refine z_sub [0, 1] rfl ?_
  exact w_X4_takesKind hx hn hR hq σ x1 h
theorem dX4_takesColon_0 : decode cX4_takesColon 0 = .ok (.iload_n 1, 1) := by decide +kernel
theorem dX4_takesColon_1 : decode cX4_takesColon 1 = .ok (.bipush 58, 2) := by decide +kernel
theorem dX4_takesColon_3 : decode cX4_takesColon 3 = .ok (.if_icmp .eq 5, 3) := by decide +kernel
theorem dX4_takesColon_6 : decode cX4_takesColon 6 = .ok (.iconst 0, 1) := by decide +kernel
theorem dX4_takesColon_7 : decode cX4_takesColon 7 = .ok (.ireturn, 1) := by decide +kernel
theorem dX4_takesColon_8 : decode cX4_takesColon 8 = .ok (.aload_n 0, 1) := by decide +kernel
theorem dX4_takesColon_9 : decode cX4_takesColon 9 = .ok (.aload_n 0, 1) := by decide +kernel
theorem dX4_takesColon_10 : decode cX4_takesColon 10 = .ok (.getfield 12, 3) := by decide +kernel
theorem dX4_takesColon_13 : decode cX4_takesColon 13 = .ok (.getfield 67, 3) := by decide +kernel
theorem dX4_takesColon_16 : decode cX4_takesColon 16 = .ok (.putfield 70, 3) := by decide +kernel
theorem dX4_takesColon_19 : decode cX4_takesColon 19 = .ok (.aload_n 0, 1) := by decide +kernel
theorem dX4_takesColon_20 : decode cX4_takesColon 20 = .ok (.iconst 4, 1) := by decide +kernel
theorem dX4_takesColon_21 : decode cX4_takesColon 21 = .ok (.putfield 21, 3) := by decide +kernel
theorem dX4_takesColon_24 : decode cX4_takesColon 24 = .ok (.iconst 1, 1) := by decide +kernel
theorem dX4_takesColon_25 : decode cX4_takesColon 25 = .ok (.ireturn, 1) := by decide +kernel
abbrev rm_X4_takesColon : Room := { frames := 0, cells := 0, slots := 0, locals := 0 }
theorem w_X4_takesColon {C : zC} (hx : z_ok C cX4_takesColon RX4 0) (hn : z_nL C = 2) (hR : z_R C = rm_X4_takesColon) {rr : Int × zS} (hq : z_fin C (some .boolean) (z_QI (z_g C) rr.1 rr.2)) (σ : zS) (x1 : Int) (h : f_X4_takesColon σ x1 = some rr) : z_W C σ 0 [(0, .ref (z_ad (z_g C) 59)), (1, .int (zi x1))] [] := by
  unfold f_X4_takesColon at h
  refine z_iload_n hx 1 dX4_takesColon_0 rfl ?_
  refine z_bipush hx (n := 58) dX4_takesColon_1 rfl ?_
  refine z_icmp_eq hx (tgt := 8) dX4_takesColon_3 (by decide) h (fun h => ⟨h, by decide⟩) (fun hc h => ?_) (fun hc h => ?_)
  · refine z_aload_n hx 0 dX4_takesColon_8 rfl ?_
    refine z_aload_n hx 0 dX4_takesColon_9 rfl ?_
    refine gf_X4_draft hx wf_X4_12 dX4_takesColon_10 ?_
    refine gf_X2_frames hx wf_X4_67 (show 5 < 6 by decide) dX4_takesColon_13 ?_
    refine pf_X4_first hx wf_X4_70 dX4_takesColon_16 h (fun σ1 h => ?_)
    refine z_aload_n hx 0 dX4_takesColon_19 rfl ?_
    refine z_iconst hx (n := 4) dX4_takesColon_20 ?_
    refine pf_X4_stage hx wf_X4_21 dX4_takesColon_21 h (fun σ2 h => ?_)
    refine z_iconst hx (n := 1) dX4_takesColon_24 ?_
    cases h
    exact z_zret hx (by decide) hq dX4_takesColon_25
  · refine z_iconst hx (n := 0) dX4_takesColon_6 ?_
    cases h
    exact z_zret hx (by decide) hq dX4_takesColon_7

theorem met_X4_takesColon (l : Launch) (g : zG) (hg : g.1 = 0) {σ : zS} {x1 : Int} {rr : Int × zS} (h : f_X4_takesColon σ x1 = some rr) : z_Met l yX4_takesColon cX4_takesColon 2 (some .boolean) rm_X4_takesColon g [.ref (z_ad (g) 59), .int (zi x1)] σ (z_QI g rr.1 rr.2) := by
  refine z_enter (own := RX4) (sd := 0) (lv0 := [(0, .ref (z_ad (g) 59)), (1, .int (zi x1))]) (by decide) rfl (Nat.le_of_ble_eq_true rfl) hg rfl (fun C hx hl hgC hR hn hq => ?_)
  subst hgC
  refine z_sub [0, 1] rfl ?_
  exact w_X4_takesColon hx hn hR hq σ x1 h
theorem dX4_takesDoubt_0 : decode cX4_takesDoubt 0 = .ok (.iload_n 1, 1) := by decide +kernel
theorem dX4_takesDoubt_1 : decode cX4_takesDoubt 1 = .ok (.invokestatic 48, 3) := by decide +kernel
theorem dX4_takesDoubt_4 : decode cX4_takesDoubt 4 = .ok (.ifCond .eq 39, 3) := by decide +kernel
theorem dX4_takesDoubt_7 : decode cX4_takesDoubt 7 = .ok (.aload_n 0, 1) := by decide +kernel
theorem dX4_takesDoubt_8 : decode cX4_takesDoubt 8 = .ok (.getfield 61, 3) := by decide +kernel
theorem dX4_takesDoubt_11 : decode cX4_takesDoubt 11 = .ok (.iconst 3, 1) := by decide +kernel
theorem dX4_takesDoubt_12 : decode cX4_takesDoubt 12 = .ok (.if_icmp .ge 31, 3) := by decide +kernel
theorem dX4_takesDoubt_15 : decode cX4_takesDoubt 15 = .ok (.aload_n 0, 1) := by decide +kernel
theorem dX4_takesDoubt_16 : decode cX4_takesDoubt 16 = .ok (.bipush 10, 2) := by decide +kernel
theorem dX4_takesDoubt_18 : decode cX4_takesDoubt 18 = .ok (.aload_n 0, 1) := by decide +kernel
theorem dX4_takesDoubt_19 : decode cX4_takesDoubt 19 = .ok (.getfield 58, 3) := by decide +kernel
theorem dX4_takesDoubt_22 : decode cX4_takesDoubt 22 = .ok (.imul, 1) := by decide +kernel
theorem dX4_takesDoubt_23 : decode cX4_takesDoubt 23 = .ok (.iload_n 1, 1) := by decide +kernel
theorem dX4_takesDoubt_24 : decode cX4_takesDoubt 24 = .ok (.bipush 48, 2) := by decide +kernel
theorem dX4_takesDoubt_26 : decode cX4_takesDoubt 26 = .ok (.isub, 1) := by decide +kernel
theorem dX4_takesDoubt_27 : decode cX4_takesDoubt 27 = .ok (.iadd, 1) := by decide +kernel
theorem dX4_takesDoubt_28 : decode cX4_takesDoubt 28 = .ok (.putfield 58, 3) := by decide +kernel
theorem dX4_takesDoubt_31 : decode cX4_takesDoubt 31 = .ok (.aload_n 0, 1) := by decide +kernel
theorem dX4_takesDoubt_32 : decode cX4_takesDoubt 32 = .ok (.dup, 1) := by decide +kernel
theorem dX4_takesDoubt_33 : decode cX4_takesDoubt 33 = .ok (.getfield 61, 3) := by decide +kernel
theorem dX4_takesDoubt_36 : decode cX4_takesDoubt 36 = .ok (.iconst 1, 1) := by decide +kernel
theorem dX4_takesDoubt_37 : decode cX4_takesDoubt 37 = .ok (.iadd, 1) := by decide +kernel
theorem dX4_takesDoubt_38 : decode cX4_takesDoubt 38 = .ok (.putfield 61, 3) := by decide +kernel
theorem dX4_takesDoubt_41 : decode cX4_takesDoubt 41 = .ok (.iconst 1, 1) := by decide +kernel
theorem dX4_takesDoubt_42 : decode cX4_takesDoubt 42 = .ok (.ireturn, 1) := by decide +kernel
theorem dX4_takesDoubt_43 : decode cX4_takesDoubt 43 = .ok (.aload_n 0, 1) := by decide +kernel
theorem dX4_takesDoubt_44 : decode cX4_takesDoubt 44 = .ok (.getfield 61, 3) := by decide +kernel
theorem dX4_takesDoubt_47 : decode cX4_takesDoubt 47 = .ok (.ifCond .eq 11, 3) := by decide +kernel
theorem dX4_takesDoubt_50 : decode cX4_takesDoubt 50 = .ok (.aload_n 0, 1) := by decide +kernel
theorem dX4_takesDoubt_51 : decode cX4_takesDoubt 51 = .ok (.iload_n 1, 1) := by decide +kernel
theorem dX4_takesDoubt_52 : decode cX4_takesDoubt 52 = .ok (.invokevirtual 42, 3) := by decide +kernel
theorem dX4_takesDoubt_55 : decode cX4_takesDoubt 55 = .ok (.ifCond .ne 5, 3) := by decide +kernel
theorem dX4_takesDoubt_58 : decode cX4_takesDoubt 58 = .ok (.iconst 0, 1) := by decide +kernel
theorem dX4_takesDoubt_59 : decode cX4_takesDoubt 59 = .ok (.ireturn, 1) := by decide +kernel
theorem dX4_takesDoubt_60 : decode cX4_takesDoubt 60 = .ok (.aload_n 0, 1) := by decide +kernel
theorem dX4_takesDoubt_61 : decode cX4_takesDoubt 61 = .ok (.getfield 58, 3) := by decide +kernel
theorem dX4_takesDoubt_64 : decode cX4_takesDoubt 64 = .ok (.bipush 100, 2) := by decide +kernel
theorem dX4_takesDoubt_66 : decode cX4_takesDoubt 66 = .ok (.if_icmp .le 21, 3) := by decide +kernel
theorem dX4_takesDoubt_69 : decode cX4_takesDoubt 69 = .ok (.aload_n 0, 1) := by decide +kernel
theorem dX4_takesDoubt_70 : decode cX4_takesDoubt 70 = .ok (.getfield 25, 3) := by decide +kernel
theorem dX4_takesDoubt_73 : decode cX4_takesDoubt 73 = .ok (.iconst (-1), 1) := by decide +kernel
theorem dX4_takesDoubt_74 : decode cX4_takesDoubt 74 = .ok (.if_icmp .ne 13, 3) := by decide +kernel
theorem dX4_takesDoubt_77 : decode cX4_takesDoubt 77 = .ok (.aload_n 0, 1) := by decide +kernel
theorem dX4_takesDoubt_78 : decode cX4_takesDoubt 78 = .ok (.iload_n 2, 1) := by decide +kernel
theorem dX4_takesDoubt_79 : decode cX4_takesDoubt 79 = .ok (.aload_n 0, 1) := by decide +kernel
theorem dX4_takesDoubt_80 : decode cX4_takesDoubt 80 = .ok (.getfield 61, 3) := by decide +kernel
theorem dX4_takesDoubt_83 : decode cX4_takesDoubt 83 = .ok (.isub, 1) := by decide +kernel
theorem dX4_takesDoubt_84 : decode cX4_takesDoubt 84 = .ok (.putfield 25, 3) := by decide +kernel
theorem dX4_takesDoubt_87 : decode cX4_takesDoubt 87 = .ok (.iconst 1, 1) := by decide +kernel
theorem dX4_takesDoubt_88 : decode cX4_takesDoubt 88 = .ok (.ireturn, 1) := by decide +kernel
abbrev rm_X4_takesDoubt : Room := { frames := 1, cells := 0, slots := 0, locals := 21 }
theorem w_X4_takesDoubt_b87 {C : zC} (hx : z_ok C cX4_takesDoubt RX4 0) (hn : z_nL C = 3) (hR : z_R C = rm_X4_takesDoubt) {rr : Int × zS} (hq : z_fin C (some .boolean) (z_QI (z_g C) rr.1 rr.2)) (σ : zS) (h : f_X4_takesDoubt_b87 σ = some rr) : z_W C σ 87 [] [] := by
  unfold f_X4_takesDoubt_b87 at h
  refine z_iconst hx (n := 1) dX4_takesDoubt_87 ?_
  cases h
  exact z_zret hx (by decide) hq dX4_takesDoubt_88

theorem w_X4_takesDoubt_b58 {C : zC} (hx : z_ok C cX4_takesDoubt RX4 0) (hn : z_nL C = 3) (hR : z_R C = rm_X4_takesDoubt) {rr : Int × zS} (hq : z_fin C (some .boolean) (z_QI (z_g C) rr.1 rr.2)) (σ : zS) (h : f_X4_takesDoubt_b58 σ = some rr) : z_W C σ 58 [] [] := by
  unfold f_X4_takesDoubt_b58 at h
  refine z_iconst hx (n := 0) dX4_takesDoubt_58 ?_
  cases h
  exact z_zret hx (by decide) hq dX4_takesDoubt_59

theorem w_X4_takesDoubt_b43 {C : zC} (hx : z_ok C cX4_takesDoubt RX4 0) (hn : z_nL C = 3) (hR : z_R C = rm_X4_takesDoubt) {rr : Int × zS} (hq : z_fin C (some .boolean) (z_QI (z_g C) rr.1 rr.2)) (σ : zS) (x1 : Int) (x2 : Int) (h : f_X4_takesDoubt_b43 σ x1 x2 = some rr) : z_W C σ 43 [(0, .ref (z_ad (z_g C) 59)), (1, .int (zi x1)), (2, .int (zi x2))] [] := by
  unfold f_X4_takesDoubt_b43 at h
  refine z_aload_n hx 0 dX4_takesDoubt_43 rfl ?_
  refine gf_X4_doubtDigits hx wf_X4_61 dX4_takesDoubt_44 ?_
  refine z_if_eq hx (tgt := 58) dX4_takesDoubt_47 (by decide) h (fun h => h) (fun hc h => ?_) (fun hc h => ?_)
  · refine z_sub [] rfl ?_
    exact w_X4_takesDoubt_b58 hx hn hR hq σ h
  · refine z_aload_n hx 0 dX4_takesDoubt_50 rfl ?_
    refine z_iload_n hx 1 dX4_takesDoubt_51 rfl ?_
    obtain ⟨r2, σ1, h52, h⟩ := z_bind_some h
    refine z_calli hx (As := [.int (zi x1)]) (k := 59) (met_X4_takesColon (z_l C) (z_g C) (z_ok_sd hx) h52) (z_lt0 (z_ok_sd hx) (by decide)) (z_kb59 (z_ok_sd hx) _) rfl rfl cv_X4_42 (z_room hR ⟨Nat.le_of_ble_eq_true rfl, Nat.le_of_ble_eq_true rfl⟩) ⟨rfl, rfl⟩ rfl rfl (Nat.le_of_ble_eq_true rfl) dX4_takesDoubt_52 ?_
    refine z_if_ne hx (tgt := 60) dX4_takesDoubt_55 (by decide) h (fun h => h) (fun hc h => ?_) (fun hc h => ?_)
    · refine z_aload_n hx 0 dX4_takesDoubt_60 rfl ?_
      refine gf_X4_doubt hx wf_X4_58 dX4_takesDoubt_61 ?_
      refine z_bipush hx (n := 100) dX4_takesDoubt_64 rfl ?_
      refine z_icmp_le hx (tgt := 87) dX4_takesDoubt_66 (by decide) h (fun h => ⟨h, by decide⟩) (fun hc h => ?_) (fun hc h => ?_)
      · refine z_sub [] rfl ?_
        exact w_X4_takesDoubt_b87 hx hn hR hq σ1 h
      · refine z_aload_n hx 0 dX4_takesDoubt_69 rfl ?_
        refine gf_X4_wrongDoubtPlace hx wf_X4_25 dX4_takesDoubt_70 ?_
        refine z_iconst hx (n := (-1)) dX4_takesDoubt_73 ?_
        refine z_icmp_ne hx (tgt := 87) dX4_takesDoubt_74 (by decide) h (fun h => ⟨h, by decide⟩) (fun hc h => ?_) (fun hc h => ?_)
        · refine z_sub [] rfl ?_
          exact w_X4_takesDoubt_b87 hx hn hR hq σ1 h
        · refine z_aload_n hx 0 dX4_takesDoubt_77 rfl ?_
          refine z_iload_n hx 2 dX4_takesDoubt_78 rfl ?_
          refine z_aload_n hx 0 dX4_takesDoubt_79 rfl ?_
          refine gf_X4_doubtDigits hx wf_X4_61 dX4_takesDoubt_80 ?_
          refine z_isub hx dX4_takesDoubt_83 ?_
          refine pf_X4_wrongDoubtPlace hx wf_X4_25 dX4_takesDoubt_84 h (fun σ3 h => ?_)
          refine z_sub [] rfl ?_
          exact w_X4_takesDoubt_b87 hx hn hR hq σ3 h
    · refine z_sub [] rfl ?_
      exact w_X4_takesDoubt_b58 hx hn hR hq σ1 h

theorem w_X4_takesDoubt {C : zC} (hx : z_ok C cX4_takesDoubt RX4 0) (hn : z_nL C = 3) (hR : z_R C = rm_X4_takesDoubt) {rr : Int × zS} (hq : z_fin C (some .boolean) (z_QI (z_g C) rr.1 rr.2)) (σ : zS) (x1 : Int) (x2 : Int) (h : f_X4_takesDoubt σ x1 x2 = some rr) : z_W C σ 0 [(0, .ref (z_ad (z_g C) 59)), (1, .int (zi x1)), (2, .int (zi x2))] [] := by
  unfold f_X4_takesDoubt at h
  refine z_iload_n hx 1 dX4_takesDoubt_0 rfl ?_
  obtain ⟨r2, σ1, h1, h⟩ := z_bind_some h
  refine z_calls hx (As := [.int (zi x1)]) (met_X4_isDigit (z_l C) (z_g C) (z_ok_sd hx) h1) cv_X4_48 (z_room hR ⟨Nat.le_of_ble_eq_true rfl, Nat.le_of_ble_eq_true rfl⟩) ⟨rfl, rfl⟩ rfl rfl (Nat.le_of_ble_eq_true rfl) dX4_takesDoubt_1 ?_
  refine z_if_eq hx (tgt := 43) dX4_takesDoubt_4 (by decide) h (fun h => h) (fun hc h => ?_) (fun hc h => ?_)
  · refine z_sub [0, 1, 2] rfl ?_
    exact w_X4_takesDoubt_b43 hx hn hR hq σ1 x1 x2 h
  · refine z_aload_n hx 0 dX4_takesDoubt_7 rfl ?_
    refine gf_X4_doubtDigits hx wf_X4_61 dX4_takesDoubt_8 ?_
    refine z_iconst hx (n := 3) dX4_takesDoubt_11 ?_
    refine z_icmp_ge hx (tgt := 43) dX4_takesDoubt_12 (by decide) h (fun h => ⟨h, by decide⟩) (fun hc h => ?_) (fun hc h => ?_)
    · refine z_sub [0, 1, 2] rfl ?_
      exact w_X4_takesDoubt_b43 hx hn hR hq σ1 x1 x2 h
    · refine z_aload_n hx 0 dX4_takesDoubt_15 rfl ?_
      refine z_bipush hx (n := 10) dX4_takesDoubt_16 rfl ?_
      refine z_aload_n hx 0 dX4_takesDoubt_18 rfl ?_
      refine gf_X4_doubt hx wf_X4_58 dX4_takesDoubt_19 ?_
      refine z_imul hx dX4_takesDoubt_22 ?_
      refine z_iload_n hx 1 dX4_takesDoubt_23 rfl ?_
      refine z_bipush hx (n := 48) dX4_takesDoubt_24 rfl ?_
      refine z_isub hx dX4_takesDoubt_26 ?_
      refine z_iadd hx dX4_takesDoubt_27 ?_
      refine pf_X4_doubt hx wf_X4_58 dX4_takesDoubt_28 h (fun σ3 h => ?_)
      refine z_aload_n hx 0 dX4_takesDoubt_31 rfl ?_
      refine z_dup hx dX4_takesDoubt_32 rfl ?_
      refine gf_X4_doubtDigits hx wf_X4_61 dX4_takesDoubt_33 ?_
      refine z_iconst hx (n := 1) dX4_takesDoubt_36 ?_
      refine z_iadd hx dX4_takesDoubt_37 ?_
      refine pf_X4_doubtDigits hx wf_X4_61 dX4_takesDoubt_38 h (fun σ4 h => ?_)
      refine z_iconst hx (n := 1) dX4_takesDoubt_41 ?_
      cases h
      exact z_zret hx (by decide) hq dX4_takesDoubt_42

theorem met_X4_takesDoubt (l : Launch) (g : zG) (hg : g.1 = 0) {σ : zS} {x1 : Int} {x2 : Int} {rr : Int × zS} (h : f_X4_takesDoubt σ x1 x2 = some rr) : z_Met l yX4_takesDoubt cX4_takesDoubt 3 (some .boolean) rm_X4_takesDoubt g [.ref (z_ad (g) 59), .int (zi x1), .int (zi x2)] σ (z_QI g rr.1 rr.2) := by
  refine z_enter (own := RX4) (sd := 0) (lv0 := [(0, .ref (z_ad (g) 59)), (1, .int (zi x1)), (2, .int (zi x2))]) (by decide) rfl (Nat.le_of_ble_eq_true rfl) hg rfl (fun C hx hl hgC hR hn hq => ?_)
  subst hgC
  refine z_sub [0, 1, 2] rfl ?_
  exact w_X4_takesDoubt hx hn hR hq σ x1 x2 h
theorem dX4_takesInside_0 : decode cX4_takesInside 0 = .ok (.iload_n 1, 1) := by decide +kernel
theorem dX4_takesInside_1 : decode cX4_takesInside 1 = .ok (.invokestatic 48, 3) := by decide +kernel
theorem dX4_takesInside_4 : decode cX4_takesInside 4 = .ok (.ifCond .eq 16, 3) := by decide +kernel
theorem dX4_takesInside_7 : decode cX4_takesInside 7 = .ok (.aload_n 0, 1) := by decide +kernel
theorem dX4_takesInside_8 : decode cX4_takesInside 8 = .ok (.getfield 12, 3) := by decide +kernel
theorem dX4_takesInside_11 : decode cX4_takesInside 11 = .ok (.iload_n 1, 1) := by decide +kernel
theorem dX4_takesInside_12 : decode cX4_takesInside 12 = .ok (.bipush 48, 2) := by decide +kernel
theorem dX4_takesInside_14 : decode cX4_takesInside 14 = .ok (.isub, 1) := by decide +kernel
theorem dX4_takesInside_15 : decode cX4_takesInside 15 = .ok (.invokevirtual 51, 3) := by decide +kernel
theorem dX4_takesInside_18 : decode cX4_takesInside 18 = .ok (.iconst 1, 1) := by decide +kernel
theorem dX4_takesInside_19 : decode cX4_takesInside 19 = .ok (.ireturn, 1) := by decide +kernel
theorem dX4_takesInside_20 : decode cX4_takesInside 20 = .ok (.iload_n 1, 1) := by decide +kernel
theorem dX4_takesInside_21 : decode cX4_takesInside 21 = .ok (.bipush 93, 2) := by decide +kernel
theorem dX4_takesInside_23 : decode cX4_takesInside 23 = .ok (.if_icmp .ne 17, 3) := by decide +kernel
theorem dX4_takesInside_26 : decode cX4_takesInside 26 = .ok (.aload_n 0, 1) := by decide +kernel
theorem dX4_takesInside_27 : decode cX4_takesInside 27 = .ok (.getfield 12, 3) := by decide +kernel
theorem dX4_takesInside_30 : decode cX4_takesInside 30 = .ok (.getfield 67, 3) := by decide +kernel
theorem dX4_takesInside_33 : decode cX4_takesInside 33 = .ok (.aload_n 0, 1) := by decide +kernel
theorem dX4_takesInside_34 : decode cX4_takesInside 34 = .ok (.getfield 70, 3) := by decide +kernel
theorem dX4_takesInside_37 : decode cX4_takesInside 37 = .ok (.if_icmp .ne 5, 3) := by decide +kernel
theorem dX4_takesInside_40 : decode cX4_takesInside 40 = .ok (.iconst 0, 1) := by decide +kernel
theorem dX4_takesInside_41 : decode cX4_takesInside 41 = .ok (.ireturn, 1) := by decide +kernel
theorem dX4_takesInside_42 : decode cX4_takesInside 42 = .ok (.aload_n 0, 1) := by decide +kernel
theorem dX4_takesInside_43 : decode cX4_takesInside 43 = .ok (.getfield 12, 3) := by decide +kernel
theorem dX4_takesInside_46 : decode cX4_takesInside 46 = .ok (.aload_n 0, 1) := by decide +kernel
theorem dX4_takesInside_47 : decode cX4_takesInside 47 = .ok (.getfield 64, 3) := by decide +kernel
theorem dX4_takesInside_50 : decode cX4_takesInside 50 = .ok (.aload_n 0, 1) := by decide +kernel
theorem dX4_takesInside_51 : decode cX4_takesInside 51 = .ok (.getfield 70, 3) := by decide +kernel
theorem dX4_takesInside_54 : decode cX4_takesInside 54 = .ok (.aload_n 0, 1) := by decide +kernel
theorem dX4_takesInside_55 : decode cX4_takesInside 55 = .ok (.getfield 12, 3) := by decide +kernel
theorem dX4_takesInside_58 : decode cX4_takesInside 58 = .ok (.getfield 67, 3) := by decide +kernel
theorem dX4_takesInside_61 : decode cX4_takesInside 61 = .ok (.aload_n 0, 1) := by decide +kernel
theorem dX4_takesInside_62 : decode cX4_takesInside 62 = .ok (.getfield 58, 3) := by decide +kernel
theorem dX4_takesInside_65 : decode cX4_takesInside 65 = .ok (.invokevirtual 73, 3) := by decide +kernel
theorem dX4_takesInside_68 : decode cX4_takesInside 68 = .ok (.pop, 1) := by decide +kernel
theorem dX4_takesInside_69 : decode cX4_takesInside 69 = .ok (.aload_n 0, 1) := by decide +kernel
theorem dX4_takesInside_70 : decode cX4_takesInside 70 = .ok (.iconst 0, 1) := by decide +kernel
theorem dX4_takesInside_71 : decode cX4_takesInside 71 = .ok (.putfield 21, 3) := by decide +kernel
theorem dX4_takesInside_74 : decode cX4_takesInside 74 = .ok (.iconst 1, 1) := by decide +kernel
theorem dX4_takesInside_75 : decode cX4_takesInside 75 = .ok (.ireturn, 1) := by decide +kernel
abbrev rm_X4_takesInside : Room := { frames := 2, cells := 0, slots := 0, locals := 48 }
theorem w_X4_takesInside_b40 {C : zC} (hx : z_ok C cX4_takesInside RX4 0) (hn : z_nL C = 2) (hR : z_R C = rm_X4_takesInside) {rr : Int × zS} (hq : z_fin C (some .boolean) (z_QI (z_g C) rr.1 rr.2)) (σ : zS) (h : f_X4_takesInside_b40 σ = some rr) : z_W C σ 40 [] [] := by
  unfold f_X4_takesInside_b40 at h
  refine z_iconst hx (n := 0) dX4_takesInside_40 ?_
  cases h
  exact z_zret hx (by decide) hq dX4_takesInside_41

theorem w_X4_takesInside {C : zC} (hx : z_ok C cX4_takesInside RX4 0) (hn : z_nL C = 2) (hR : z_R C = rm_X4_takesInside) {rr : Int × zS} (hq : z_fin C (some .boolean) (z_QI (z_g C) rr.1 rr.2)) (σ : zS) (x1 : Int) (h : f_X4_takesInside σ x1 = some rr) : z_W C σ 0 [(0, .ref (z_ad (z_g C) 59)), (1, .int (zi x1))] [] := by
  unfold f_X4_takesInside at h
  refine z_iload_n hx 1 dX4_takesInside_0 rfl ?_
  obtain ⟨r2, σ1, h1, h⟩ := z_bind_some h
  refine z_calls hx (As := [.int (zi x1)]) (met_X4_isDigit (z_l C) (z_g C) (z_ok_sd hx) h1) cv_X4_48 (z_room hR ⟨Nat.le_of_ble_eq_true rfl, Nat.le_of_ble_eq_true rfl⟩) ⟨rfl, rfl⟩ rfl rfl (Nat.le_of_ble_eq_true rfl) dX4_takesInside_1 ?_
  refine z_if_eq hx (tgt := 20) dX4_takesInside_4 (by decide) h (fun h => h) (fun hc h => ?_) (fun hc h => ?_)
  · refine z_iload_n hx 1 dX4_takesInside_20 rfl ?_
    refine z_bipush hx (n := 93) dX4_takesInside_21 rfl ?_
    refine z_icmp_ne hx (tgt := 40) dX4_takesInside_23 (by decide) h (fun h => ⟨h, by decide⟩) (fun hc h => ?_) (fun hc h => ?_)
    · refine z_sub [] rfl ?_
      exact w_X4_takesInside_b40 hx hn hR hq σ1 h
    · refine z_aload_n hx 0 dX4_takesInside_26 rfl ?_
      refine gf_X4_draft hx wf_X4_12 dX4_takesInside_27 ?_
      refine gf_X2_frames hx wf_X4_67 (show 5 < 6 by decide) dX4_takesInside_30 ?_
      refine z_aload_n hx 0 dX4_takesInside_33 rfl ?_
      refine gf_X4_first hx wf_X4_70 dX4_takesInside_34 ?_
      refine z_icmp_ne hx (tgt := 42) dX4_takesInside_37 (by decide) h (fun h => h) (fun hc h => ?_) (fun hc h => ?_)
      · refine z_aload_n hx 0 dX4_takesInside_42 rfl ?_
        refine gf_X4_draft hx wf_X4_12 dX4_takesInside_43 ?_
        refine z_aload_n hx 0 dX4_takesInside_46 rfl ?_
        refine gf_X4_kind hx wf_X4_64 dX4_takesInside_47 ?_
        refine z_aload_n hx 0 dX4_takesInside_50 rfl ?_
        refine gf_X4_first hx wf_X4_70 dX4_takesInside_51 ?_
        refine z_aload_n hx 0 dX4_takesInside_54 rfl ?_
        refine gf_X4_draft hx wf_X4_12 dX4_takesInside_55 ?_
        refine gf_X2_frames hx wf_X4_67 (show 5 < 6 by decide) dX4_takesInside_58 ?_
        refine z_aload_n hx 0 dX4_takesInside_61 rfl ?_
        refine gf_X4_doubt hx wf_X4_58 dX4_takesInside_62 ?_
        obtain ⟨r4, σ3, h65, h⟩ := z_bind_some h
        refine z_calli hx (As := [.int (zi (σ1 59 2)), .int (zi (σ1 59 3)), .int (zi (σ1 40 1)), .int (zi (σ1 59 4))]) (k := 40) (met_X2_addMark (z_l C) (z_g C) (z_ok_sd hx) (show 5 < 6 by decide) h65) (z_lt0 (z_ok_sd hx) (by decide)) (z_ka0 (z_ok_sd hx) (show 5 < 6 by decide) _) rfl rfl cv_X4_73 (z_room hR ⟨Nat.le_of_ble_eq_true rfl, Nat.le_of_ble_eq_true rfl⟩) ⟨rfl, rfl⟩ rfl rfl (Nat.le_of_ble_eq_true rfl) dX4_takesInside_65 ?_
        refine z_pop hx dX4_takesInside_68 rfl ?_
        refine z_aload_n hx 0 dX4_takesInside_69 rfl ?_
        refine z_iconst hx (n := 0) dX4_takesInside_70 ?_
        refine pf_X4_stage hx wf_X4_21 dX4_takesInside_71 h (fun σ5 h => ?_)
        refine z_iconst hx (n := 1) dX4_takesInside_74 ?_
        cases h
        exact z_zret hx (by decide) hq dX4_takesInside_75
      · refine z_sub [] rfl ?_
        exact w_X4_takesInside_b40 hx hn hR hq σ1 h
  · refine z_aload_n hx 0 dX4_takesInside_7 rfl ?_
    refine gf_X4_draft hx wf_X4_12 dX4_takesInside_8 ?_
    refine z_iload_n hx 1 dX4_takesInside_11 rfl ?_
    refine z_bipush hx (n := 48) dX4_takesInside_12 rfl ?_
    refine z_isub hx dX4_takesInside_14 ?_
    obtain ⟨⟨⟩, σ6, h15, h⟩ := z_bind_some h
    refine z_callv hx (As := [.int (zi (x1 - 48))]) (k := 40) (met_X2_addFrame (z_l C) (z_g C) (z_ok_sd hx) (show 5 < 6 by decide) h15) (z_lt0 (z_ok_sd hx) (by decide)) (z_ka0 (z_ok_sd hx) (show 5 < 6 by decide) _) rfl rfl cv_X4_51 (z_room hR ⟨Nat.le_of_ble_eq_true rfl, Nat.le_of_ble_eq_true rfl⟩) ⟨rfl, rfl⟩ rfl rfl (Nat.le_of_ble_eq_true rfl) dX4_takesInside_15 ?_
    refine z_iconst hx (n := 1) dX4_takesInside_18 ?_
    cases h
    exact z_zret hx (by decide) hq dX4_takesInside_19

theorem met_X4_takesInside (l : Launch) (g : zG) (hg : g.1 = 0) {σ : zS} {x1 : Int} {rr : Int × zS} (h : f_X4_takesInside σ x1 = some rr) : z_Met l yX4_takesInside cX4_takesInside 2 (some .boolean) rm_X4_takesInside g [.ref (z_ad (g) 59), .int (zi x1)] σ (z_QI g rr.1 rr.2) := by
  refine z_enter (own := RX4) (sd := 0) (lv0 := [(0, .ref (z_ad (g) 59)), (1, .int (zi x1))]) (by decide) rfl (Nat.le_of_ble_eq_true rfl) hg rfl (fun C hx hl hgC hR hn hq => ?_)
  subst hgC
  refine z_sub [0, 1] rfl ?_
  exact w_X4_takesInside hx hn hR hq σ x1 h
theorem dX4_takes_0 : decode cX4_takes 0 = .ok (.aload_n 0, 1) := by decide +kernel
theorem dX4_takes_1 : decode cX4_takes 1 = .ok (.getfield 21, 3) := by decide +kernel
theorem dX4_takes_4 : decode cX4_takes 4 = .ok (.tableswitch 57 0 3 #[32, 38, 44, 51], 32) := by decide +kernel
theorem dX4_takes_36 : decode cX4_takes 36 = .ok (.aload_n 0, 1) := by decide +kernel
theorem dX4_takes_37 : decode cX4_takes 37 = .ok (.iload_n 1, 1) := by decide +kernel
theorem dX4_takes_38 : decode cX4_takes 38 = .ok (.invokevirtual 32, 3) := by decide +kernel
theorem dX4_takes_41 : decode cX4_takes 41 = .ok (.ireturn, 1) := by decide +kernel
theorem dX4_takes_42 : decode cX4_takes 42 = .ok (.aload_n 0, 1) := by decide +kernel
theorem dX4_takes_43 : decode cX4_takes 43 = .ok (.iload_n 1, 1) := by decide +kernel
theorem dX4_takes_44 : decode cX4_takes 44 = .ok (.invokevirtual 36, 3) := by decide +kernel
theorem dX4_takes_47 : decode cX4_takes 47 = .ok (.ireturn, 1) := by decide +kernel
theorem dX4_takes_48 : decode cX4_takes 48 = .ok (.aload_n 0, 1) := by decide +kernel
theorem dX4_takes_49 : decode cX4_takes 49 = .ok (.iload_n 1, 1) := by decide +kernel
theorem dX4_takes_50 : decode cX4_takes 50 = .ok (.iload_n 2, 1) := by decide +kernel
theorem dX4_takes_51 : decode cX4_takes 51 = .ok (.invokevirtual 39, 3) := by decide +kernel
theorem dX4_takes_54 : decode cX4_takes 54 = .ok (.ireturn, 1) := by decide +kernel
theorem dX4_takes_55 : decode cX4_takes 55 = .ok (.aload_n 0, 1) := by decide +kernel
theorem dX4_takes_56 : decode cX4_takes 56 = .ok (.iload_n 1, 1) := by decide +kernel
theorem dX4_takes_57 : decode cX4_takes 57 = .ok (.invokevirtual 42, 3) := by decide +kernel
theorem dX4_takes_60 : decode cX4_takes 60 = .ok (.ireturn, 1) := by decide +kernel
theorem dX4_takes_61 : decode cX4_takes 61 = .ok (.aload_n 0, 1) := by decide +kernel
theorem dX4_takes_62 : decode cX4_takes 62 = .ok (.iload_n 1, 1) := by decide +kernel
theorem dX4_takes_63 : decode cX4_takes 63 = .ok (.invokevirtual 45, 3) := by decide +kernel
theorem dX4_takes_66 : decode cX4_takes 66 = .ok (.ireturn, 1) := by decide +kernel
abbrev rm_X4_takes : Room := { frames := 3, cells := 0, slots := 0, locals := 69 }
theorem w_X4_takes {C : zC} (hx : z_ok C cX4_takes RX4 0) (hn : z_nL C = 3) (hR : z_R C = rm_X4_takes) {rr : Int × zS} (hq : z_fin C (some .boolean) (z_QI (z_g C) rr.1 rr.2)) (σ : zS) (x1 : Int) (x2 : Int) (h : f_X4_takes σ x1 x2 = some rr) : z_W C σ 0 [(0, .ref (z_ad (z_g C) 59)), (1, .int (zi x1)), (2, .int (zi x2))] [] := by
  unfold f_X4_takes at h
  refine z_aload_n hx 0 dX4_takes_0 rfl ?_
  refine gf_X4_stage hx wf_X4_21 dX4_takes_1 ?_
  obtain ⟨hr, h⟩ := z_gd h
  by_cases hc0 : (σ 59 1) = 0
  · rw [if_pos hc0] at h
    refine z_tswIn hx (tgt := 36) (off := 32) dX4_takes_4 hr (by omega) (by omega) (by rw [hc0]; rfl) (by decide) ?_
    refine z_aload_n hx 0 dX4_takes_36 rfl ?_
    refine z_iload_n hx 1 dX4_takes_37 rfl ?_
    obtain ⟨r10, σ9, h38, h⟩ := z_bind_some h
    refine z_calli hx (As := [.int (zi x1)]) (k := 59) (met_X4_takesOutside (z_l C) (z_g C) (z_ok_sd hx) h38) (z_lt0 (z_ok_sd hx) (by decide)) (z_kb59 (z_ok_sd hx) _) rfl rfl cv_X4_32 (z_room hR ⟨Nat.le_of_ble_eq_true rfl, Nat.le_of_ble_eq_true rfl⟩) ⟨rfl, rfl⟩ rfl rfl (Nat.le_of_ble_eq_true rfl) dX4_takes_38 ?_
    obtain ⟨hz, h⟩ := z_gd h
    cases h
    exact z_zret hx hz hq dX4_takes_41
  · rw [if_neg hc0] at h
    by_cases hc1 : (σ 59 1) = 1
    · rw [if_pos hc1] at h
      refine z_tswIn hx (tgt := 42) (off := 38) dX4_takes_4 hr (by omega) (by omega) (by rw [hc1]; rfl) (by decide) ?_
      refine z_aload_n hx 0 dX4_takes_42 rfl ?_
      refine z_iload_n hx 1 dX4_takes_43 rfl ?_
      obtain ⟨r8, σ7, h44, h⟩ := z_bind_some h
      refine z_calli hx (As := [.int (zi x1)]) (k := 59) (met_X4_takesKind (z_l C) (z_g C) (z_ok_sd hx) h44) (z_lt0 (z_ok_sd hx) (by decide)) (z_kb59 (z_ok_sd hx) _) rfl rfl cv_X4_36 (z_room hR ⟨Nat.le_of_ble_eq_true rfl, Nat.le_of_ble_eq_true rfl⟩) ⟨rfl, rfl⟩ rfl rfl (Nat.le_of_ble_eq_true rfl) dX4_takes_44 ?_
      obtain ⟨hz, h⟩ := z_gd h
      cases h
      exact z_zret hx hz hq dX4_takes_47
    · rw [if_neg hc1] at h
      by_cases hc2 : (σ 59 1) = 2
      · rw [if_pos hc2] at h
        refine z_tswIn hx (tgt := 48) (off := 44) dX4_takes_4 hr (by omega) (by omega) (by rw [hc2]; rfl) (by decide) ?_
        refine z_aload_n hx 0 dX4_takes_48 rfl ?_
        refine z_iload_n hx 1 dX4_takes_49 rfl ?_
        refine z_iload_n hx 2 dX4_takes_50 rfl ?_
        obtain ⟨r6, σ5, h51, h⟩ := z_bind_some h
        refine z_calli hx (As := [.int (zi x1), .int (zi x2)]) (k := 59) (met_X4_takesDoubt (z_l C) (z_g C) (z_ok_sd hx) h51) (z_lt0 (z_ok_sd hx) (by decide)) (z_kb59 (z_ok_sd hx) _) rfl rfl cv_X4_39 (z_room hR ⟨Nat.le_of_ble_eq_true rfl, Nat.le_of_ble_eq_true rfl⟩) ⟨rfl, rfl⟩ rfl rfl (Nat.le_of_ble_eq_true rfl) dX4_takes_51 ?_
        obtain ⟨hz, h⟩ := z_gd h
        cases h
        exact z_zret hx hz hq dX4_takes_54
      · rw [if_neg hc2] at h
        by_cases hc3 : (σ 59 1) = 3
        · rw [if_pos hc3] at h
          refine z_tswIn hx (tgt := 55) (off := 51) dX4_takes_4 hr (by omega) (by omega) (by rw [hc3]; rfl) (by decide) ?_
          refine z_aload_n hx 0 dX4_takes_55 rfl ?_
          refine z_iload_n hx 1 dX4_takes_56 rfl ?_
          obtain ⟨r4, σ3, h57, h⟩ := z_bind_some h
          refine z_calli hx (As := [.int (zi x1)]) (k := 59) (met_X4_takesColon (z_l C) (z_g C) (z_ok_sd hx) h57) (z_lt0 (z_ok_sd hx) (by decide)) (z_kb59 (z_ok_sd hx) _) rfl rfl cv_X4_42 (z_room hR ⟨Nat.le_of_ble_eq_true rfl, Nat.le_of_ble_eq_true rfl⟩) ⟨rfl, rfl⟩ rfl rfl (Nat.le_of_ble_eq_true rfl) dX4_takes_57 ?_
          obtain ⟨hz, h⟩ := z_gd h
          cases h
          exact z_zret hx hz hq dX4_takes_60
        · rw [if_neg hc3] at h
          refine z_tswOut hx (tgt := 61) dX4_takes_4 hr (by omega) (by decide) ?_
          refine z_aload_n hx 0 dX4_takes_61 rfl ?_
          refine z_iload_n hx 1 dX4_takes_62 rfl ?_
          obtain ⟨r2, σ1, h63, h⟩ := z_bind_some h
          refine z_calli hx (As := [.int (zi x1)]) (k := 59) (met_X4_takesInside (z_l C) (z_g C) (z_ok_sd hx) h63) (z_lt0 (z_ok_sd hx) (by decide)) (z_kb59 (z_ok_sd hx) _) rfl rfl cv_X4_45 (z_room hR ⟨Nat.le_of_ble_eq_true rfl, Nat.le_of_ble_eq_true rfl⟩) ⟨rfl, rfl⟩ rfl rfl (Nat.le_of_ble_eq_true rfl) dX4_takes_63 ?_
          obtain ⟨hz, h⟩ := z_gd h
          cases h
          exact z_zret hx hz hq dX4_takes_66

theorem met_X4_takes (l : Launch) (g : zG) (hg : g.1 = 0) {σ : zS} {x1 : Int} {x2 : Int} {rr : Int × zS} (h : f_X4_takes σ x1 x2 = some rr) : z_Met l yX4_takes cX4_takes 3 (some .boolean) rm_X4_takes g [.ref (z_ad (g) 59), .int (zi x1), .int (zi x2)] σ (z_QI g rr.1 rr.2) := by
  refine z_enter (own := RX4) (sd := 0) (lv0 := [(0, .ref (z_ad (g) 59)), (1, .int (zi x1)), (2, .int (zi x2))]) (by decide) rfl (Nat.le_of_ble_eq_true rfl) hg rfl (fun C hx hl hgC hR hn hq => ?_)
  subst hgC
  refine z_sub [0, 1, 2] rfl ?_
  exact w_X4_takes hx hn hR hq σ x1 x2 h
theorem dX4_parse_0 : decode cX4_parse 0 = .ok (.aload_n 0, 1) := by decide +kernel
theorem dX4_parse_1 : decode cX4_parse 1 = .ok (.getfield 12, 3) := by decide +kernel
theorem dX4_parse_4 : decode cX4_parse 4 = .ok (.invokevirtual 18, 3) := by decide +kernel
theorem dX4_parse_7 : decode cX4_parse 7 = .ok (.aload_n 0, 1) := by decide +kernel
theorem dX4_parse_8 : decode cX4_parse 8 = .ok (.iconst 0, 1) := by decide +kernel
theorem dX4_parse_9 : decode cX4_parse 9 = .ok (.putfield 21, 3) := by decide +kernel
theorem dX4_parse_12 : decode cX4_parse 12 = .ok (.aload_n 0, 1) := by decide +kernel
theorem dX4_parse_13 : decode cX4_parse 13 = .ok (.iconst (-1), 1) := by decide +kernel
theorem dX4_parse_14 : decode cX4_parse 14 = .ok (.putfield 25, 3) := by decide +kernel
theorem dX4_parse_17 : decode cX4_parse 17 = .ok (.iconst 0, 1) := by decide +kernel
theorem dX4_parse_18 : decode cX4_parse 18 = .ok (.istore_n 3, 1) := by decide +kernel
theorem dX4_parse_19 : decode cX4_parse 19 = .ok (.iload_n 3, 1) := by decide +kernel
theorem dX4_parse_20 : decode cX4_parse 20 = .ok (.iload_n 2, 1) := by decide +kernel
theorem dX4_parse_21 : decode cX4_parse 21 = .ok (.if_icmp .ge 28, 3) := by decide +kernel
theorem dX4_parse_24 : decode cX4_parse 24 = .ok (.iload_n 3, 1) := by decide +kernel
theorem dX4_parse_25 : decode cX4_parse 25 = .ok (.aload_n 1, 1) := by decide +kernel
theorem dX4_parse_26 : decode cX4_parse 26 = .ok (.arraylength, 1) := by decide +kernel
theorem dX4_parse_27 : decode cX4_parse 27 = .ok (.if_icmp .ge 22, 3) := by decide +kernel
theorem dX4_parse_30 : decode cX4_parse 30 = .ok (.aload_n 0, 1) := by decide +kernel
theorem dX4_parse_31 : decode cX4_parse 31 = .ok (.aload_n 1, 1) := by decide +kernel
theorem dX4_parse_32 : decode cX4_parse 32 = .ok (.iload_n 3, 1) := by decide +kernel
theorem dX4_parse_33 : decode cX4_parse 33 = .ok (.iaload, 1) := by decide +kernel
theorem dX4_parse_34 : decode cX4_parse 34 = .ok (.iload_n 3, 1) := by decide +kernel
theorem dX4_parse_35 : decode cX4_parse 35 = .ok (.invokevirtual 28, 3) := by decide +kernel
theorem dX4_parse_38 : decode cX4_parse 38 = .ok (.ifCond .ne 5, 3) := by decide +kernel
theorem dX4_parse_41 : decode cX4_parse 41 = .ok (.iload_n 3, 1) := by decide +kernel
theorem dX4_parse_42 : decode cX4_parse 42 = .ok (.ireturn, 1) := by decide +kernel
theorem dX4_parse_43 : decode cX4_parse 43 = .ok (.iinc 3 1, 3) := by decide +kernel
theorem dX4_parse_46 : decode cX4_parse 46 = .ok (.goto (-27), 3) := by decide +kernel
theorem dX4_parse_49 : decode cX4_parse 49 = .ok (.aload_n 0, 1) := by decide +kernel
theorem dX4_parse_50 : decode cX4_parse 50 = .ok (.getfield 21, 3) := by decide +kernel
theorem dX4_parse_53 : decode cX4_parse 53 = .ok (.ifCond .eq 5, 3) := by decide +kernel
theorem dX4_parse_56 : decode cX4_parse 56 = .ok (.iload_n 2, 1) := by decide +kernel
theorem dX4_parse_57 : decode cX4_parse 57 = .ok (.ireturn, 1) := by decide +kernel
theorem dX4_parse_58 : decode cX4_parse 58 = .ok (.aload_n 0, 1) := by decide +kernel
theorem dX4_parse_59 : decode cX4_parse 59 = .ok (.getfield 25, 3) := by decide +kernel
theorem dX4_parse_62 : decode cX4_parse 62 = .ok (.iconst (-1), 1) := by decide +kernel
theorem dX4_parse_63 : decode cX4_parse 63 = .ok (.if_icmp .ne 8, 3) := by decide +kernel
theorem dX4_parse_66 : decode cX4_parse 66 = .ok (.bipush (-9), 2) := by decide +kernel
theorem dX4_parse_68 : decode cX4_parse 68 = .ok (.goto 7, 3) := by decide +kernel
theorem dX4_parse_71 : decode cX4_parse 71 = .ok (.aload_n 0, 1) := by decide +kernel
theorem dX4_parse_72 : decode cX4_parse 72 = .ok (.getfield 25, 3) := by decide +kernel
theorem dX4_parse_75 : decode cX4_parse 75 = .ok (.ireturn, 1) := by decide +kernel
abbrev rm_X4_parse : Room := { frames := 4, cells := 0, slots := 0, locals := 91 }
theorem w_X4_parse_b75 {C : zC} (hx : z_ok C cX4_parse RX4 0) (hn : z_nL C = 4) (hR : z_R C = rm_X4_parse) {rr : Int × zS} (hq : z_fin C (some .int) (z_QI (z_g C) rr.1 rr.2)) (σ : zS) (s0 : Int) (h : f_X4_parse_b75 σ s0 = some rr) : z_W C σ 75 [] [.int (zi s0)] := by
  unfold f_X4_parse_b75 at h
  cases h
  exact z_iret hx hq dX4_parse_75

theorem w_X4_parse_b49 {C : zC} (hx : z_ok C cX4_parse RX4 0) (hn : z_nL C = 4) (hR : z_R C = rm_X4_parse) {rr : Int × zS} (hq : z_fin C (some .int) (z_QI (z_g C) rr.1 rr.2)) (σ : zS) (x2 : Int) (h : f_X4_parse_b49 σ x2 = some rr) : z_W C σ 49 [(0, .ref (z_ad (z_g C) 59)), (2, .int (zi x2))] [] := by
  unfold f_X4_parse_b49 at h
  refine z_aload_n hx 0 dX4_parse_49 rfl ?_
  refine gf_X4_stage hx wf_X4_21 dX4_parse_50 ?_
  refine z_if_eq hx (tgt := 58) dX4_parse_53 (by decide) h (fun h => h) (fun hc h => ?_) (fun hc h => ?_)
  · refine z_aload_n hx 0 dX4_parse_58 rfl ?_
    refine gf_X4_wrongDoubtPlace hx wf_X4_25 dX4_parse_59 ?_
    refine z_iconst hx (n := (-1)) dX4_parse_62 ?_
    refine z_icmp_ne hx (tgt := 71) dX4_parse_63 (by decide) h (fun h => ⟨h, by decide⟩) (fun hc h => ?_) (fun hc h => ?_)
    · refine z_aload_n hx 0 dX4_parse_71 rfl ?_
      refine gf_X4_wrongDoubtPlace hx wf_X4_25 dX4_parse_72 ?_
      refine z_sub [] rfl ?_
      exact w_X4_parse_b75 hx hn hR hq σ (σ 59 6) h
    · refine z_bipush hx (n := (-9)) dX4_parse_66 rfl ?_
      refine z_goto hx (tgt := 75) dX4_parse_68 (by decide) ?_
      refine z_sub [] rfl ?_
      exact w_X4_parse_b75 hx hn hR hq σ (-9) h
  · refine z_iload_n hx 1 dX4_parse_56 rfl ?_
    cases h
    exact z_iret hx hq dX4_parse_57

theorem w_X4_parse_b19 {C : zC} (hx : z_ok C cX4_parse RX4 0) (hn : z_nL C = 4) (hR : z_R C = rm_X4_parse) {rr : Int × zS} (hq : z_fin C (some .int) (z_QI (z_g C) rr.1 rr.2)) {K19 : zS → Int → Int → Option (Int × zS)} (hK19 : ∀ (σ : zS) (x2 : Int) (x3 : Int) , K19 σ x2 x3 = some rr → z_W C σ 19 [(0, .ref (z_ad (z_g C) 59)), (1, .ref (z_ad (z_g C) 63)), (2, .int (zi x2)), (3, .int (zi x3))] []) (σ : zS) (x2 : Int) (x3 : Int) (h : f_X4_parse_b19 K19 σ x2 x3 = some rr) : z_W C σ 19 [(0, .ref (z_ad (z_g C) 59)), (1, .ref (z_ad (z_g C) 63)), (2, .int (zi x2)), (3, .int (zi x3))] [] := by
  unfold f_X4_parse_b19 at h
  refine z_iload_n hx 3 dX4_parse_19 rfl ?_
  refine z_iload_n hx 2 dX4_parse_20 rfl ?_
  refine z_icmp_ge hx (tgt := 49) dX4_parse_21 (by decide) h (fun h => h) (fun hc h => ?_) (fun hc h => ?_)
  · refine z_sub [0, 2] rfl ?_
    exact w_X4_parse_b49 hx hn hR hq σ x2 h
  · refine z_iload_n hx 3 dX4_parse_24 rfl ?_
    refine z_aload_n hx 1 dX4_parse_25 rfl ?_
    refine z_alen hx (n := 120) (z_lt0 (z_ok_sd hx) (by decide)) (z_kb63 (z_ok_sd hx) _) rfl dX4_parse_26 ?_
    refine z_icmp_ge hx (tgt := 49) dX4_parse_27 (by decide) h (fun h => ⟨h, by decide⟩) (fun hc h => ?_) (fun hc h => ?_)
    · refine z_sub [0, 2] rfl ?_
      exact w_X4_parse_b49 hx hn hR hq σ x2 h
    · refine z_aload_n hx 0 dX4_parse_30 rfl ?_
      refine z_aload_n hx 1 dX4_parse_31 rfl ?_
      refine z_iload_n hx 3 dX4_parse_32 rfl ?_
      refine z_iald hx (n := 120) (z_lt0 (z_ok_sd hx) (by decide)) (z_kb63 (z_ok_sd hx) _) rfl (by decide) dX4_parse_33 h (fun h => ?_)
      refine z_iload_n hx 3 dX4_parse_34 rfl ?_
      obtain ⟨r2, σ1, h35, h⟩ := z_bind_some h
      refine z_calli hx (As := [.int (zi (σ 63 x3)), .int (zi x3)]) (k := 59) (met_X4_takes (z_l C) (z_g C) (z_ok_sd hx) h35) (z_lt0 (z_ok_sd hx) (by decide)) (z_kb59 (z_ok_sd hx) _) rfl rfl cv_X4_28 (z_room hR ⟨Nat.le_of_ble_eq_true rfl, Nat.le_of_ble_eq_true rfl⟩) ⟨rfl, rfl⟩ rfl rfl (Nat.le_of_ble_eq_true rfl) dX4_parse_35 ?_
      refine z_if_ne hx (tgt := 43) dX4_parse_38 (by decide) h (fun h => h) (fun hc h => ?_) (fun hc h => ?_)
      · refine z_iinc hx hn 3 (lv' := [(3, .int (zi (x3 + 1))), (0, .ref (z_ad (z_g C) 59)), (1, .ref (z_ad (z_g C) 63)), (2, .int (zi x2))]) dX4_parse_43 rfl (by decide) rfl ?_
        refine z_goto hx (tgt := 19) dX4_parse_46 (by decide) ?_
        refine z_sub [1, 2, 3, 0] rfl ?_
        exact hK19 σ1 x2 (x3 + 1) h
      · refine z_iload_n hx 3 dX4_parse_41 rfl ?_
        cases h
        exact z_iret hx hq dX4_parse_42

theorem w_X4_parse_l19 {C : zC} (hx : z_ok C cX4_parse RX4 0) (hn : z_nL C = 4) (hR : z_R C = rm_X4_parse) {rr : Int × zS} (hq : z_fin C (some .int) (z_QI (z_g C) rr.1 rr.2)) : ∀ (n : Nat) (σ : zS) (x2 : Int) (x3 : Int) (_ : f_X4_parse_l19 n σ x2 x3 = some rr), z_W C σ 19 [(0, .ref (z_ad (z_g C) 59)), (1, .ref (z_ad (z_g C) 63)), (2, .int (zi x2)), (3, .int (zi x3))] [] := by
  intro n
  induction n with
  | zero => intro σ x2 x3 h; cases h
  | succ n ih =>
    intro σ x2 x3 h
    exact w_X4_parse_b19 hx hn hR hq ih σ x2 x3 h
theorem w_X4_parse {C : zC} (hx : z_ok C cX4_parse RX4 0) (hn : z_nL C = 4) (hR : z_R C = rm_X4_parse) {rr : Int × zS} (hq : z_fin C (some .int) (z_QI (z_g C) rr.1 rr.2)) (σ : zS) (x2 : Int) (h : f_X4_parse σ x2 = some rr) : z_W C σ 0 [(0, .ref (z_ad (z_g C) 59)), (1, .ref (z_ad (z_g C) 63)), (2, .int (zi x2))] [] := by
  unfold f_X4_parse at h
  refine z_aload_n hx 0 dX4_parse_0 rfl ?_
  refine gf_X4_draft hx wf_X4_12 dX4_parse_1 ?_
  obtain ⟨⟨⟩, σ1, h4, h⟩ := z_bind_some h
  refine z_callv hx (As := []) (k := 40) (met_X2_removeSound (z_l C) (z_g C) (z_ok_sd hx) (show 5 < 6 by decide) h4) (z_lt0 (z_ok_sd hx) (by decide)) (z_ka0 (z_ok_sd hx) (show 5 < 6 by decide) _) rfl rfl cv_X4_18 (z_room hR ⟨Nat.le_of_ble_eq_true rfl, Nat.le_of_ble_eq_true rfl⟩) ⟨rfl, rfl⟩ rfl rfl (Nat.le_of_ble_eq_true rfl) dX4_parse_4 ?_
  refine z_aload_n hx 0 dX4_parse_7 rfl ?_
  refine z_iconst hx (n := 0) dX4_parse_8 ?_
  refine pf_X4_stage hx wf_X4_21 dX4_parse_9 h (fun σ2 h => ?_)
  refine z_aload_n hx 0 dX4_parse_12 rfl ?_
  refine z_iconst hx (n := (-1)) dX4_parse_13 ?_
  refine pf_X4_wrongDoubtPlace hx wf_X4_25 dX4_parse_14 h (fun σ3 h => ?_)
  refine z_iconst hx (n := 0) dX4_parse_17 ?_
  refine z_istore_n hx hn (lv' := [(3, .int (zi 0)), (0, .ref (z_ad (z_g C) 59)), (1, .ref (z_ad (z_g C) 63)), (2, .int (zi x2))]) dX4_parse_18 (by decide) rfl ?_
  refine z_sub [1, 2, 3, 0] rfl ?_
  exact w_X4_parse_l19 hx hn hR hq z_fuel σ3 x2 0 h

theorem met_X4_parse (l : Launch) (g : zG) (hg : g.1 = 0) {σ : zS} {x2 : Int} {rr : Int × zS} (h : f_X4_parse σ x2 = some rr) : z_Met l yX4_parse cX4_parse 4 (some .int) rm_X4_parse g [.ref (z_ad (g) 59), .ref (z_ad (g) 63), .int (zi x2)] σ (z_QI g rr.1 rr.2) := by
  refine z_enter (own := RX4) (sd := 0) (lv0 := [(0, .ref (z_ad (g) 59)), (1, .ref (z_ad (g) 63)), (2, .int (zi x2))]) (by decide) rfl (Nat.le_of_ble_eq_true rfl) hg rfl (fun C hx hl hgC hR hn hq => ?_)
  subst hgC
  refine z_sub [0, 1, 2] rfl ?_
  exact w_X4_parse hx hn hR hq σ x2 h
