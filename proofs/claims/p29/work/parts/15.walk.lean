/-! walks, by program: ['X5'] -/
theorem dX5_type_0 : decode cX5_type 0 = .ok (.iload_n 1, 1) := by decide +kernel
theorem dX5_type_1 : decode cX5_type 1 = .ok (.bipush 32, 2) := by decide +kernel
theorem dX5_type_3 : decode cX5_type 3 = .ok (.if_icmp .lt 9, 3) := by decide +kernel
theorem dX5_type_6 : decode cX5_type 6 = .ok (.iload_n 1, 1) := by decide +kernel
theorem dX5_type_7 : decode cX5_type 7 = .ok (.bipush 126, 2) := by decide +kernel
theorem dX5_type_9 : decode cX5_type 9 = .ok (.if_icmp .le 5, 3) := by decide +kernel
theorem dX5_type_12 : decode cX5_type 12 = .ok (.iconst (-1), 1) := by decide +kernel
theorem dX5_type_13 : decode cX5_type 13 = .ok (.ireturn, 1) := by decide +kernel
theorem dX5_type_14 : decode cX5_type 14 = .ok (.aload_n 0, 1) := by decide +kernel
theorem dX5_type_15 : decode cX5_type 15 = .ok (.getfield 13, 3) := by decide +kernel
theorem dX5_type_18 : decode cX5_type 18 = .ok (.bipush 120, 2) := by decide +kernel
theorem dX5_type_20 : decode cX5_type 20 = .ok (.if_icmp .lt 6, 3) := by decide +kernel
theorem dX5_type_23 : decode cX5_type 23 = .ok (.bipush (-3), 2) := by decide +kernel
theorem dX5_type_25 : decode cX5_type 25 = .ok (.ireturn, 1) := by decide +kernel
theorem dX5_type_26 : decode cX5_type 26 = .ok (.aload_n 0, 1) := by decide +kernel
theorem dX5_type_27 : decode cX5_type 27 = .ok (.getfield 9, 3) := by decide +kernel
theorem dX5_type_30 : decode cX5_type 30 = .ok (.aload_n 0, 1) := by decide +kernel
theorem dX5_type_31 : decode cX5_type 31 = .ok (.getfield 13, 3) := by decide +kernel
theorem dX5_type_34 : decode cX5_type 34 = .ok (.iload_n 1, 1) := by decide +kernel
theorem dX5_type_35 : decode cX5_type 35 = .ok (.iastore, 1) := by decide +kernel
theorem dX5_type_36 : decode cX5_type 36 = .ok (.aload_n 0, 1) := by decide +kernel
theorem dX5_type_37 : decode cX5_type 37 = .ok (.dup, 1) := by decide +kernel
theorem dX5_type_38 : decode cX5_type 38 = .ok (.getfield 13, 3) := by decide +kernel
theorem dX5_type_41 : decode cX5_type 41 = .ok (.iconst 1, 1) := by decide +kernel
theorem dX5_type_42 : decode cX5_type 42 = .ok (.iadd, 1) := by decide +kernel
theorem dX5_type_43 : decode cX5_type 43 = .ok (.putfield 13, 3) := by decide +kernel
theorem dX5_type_46 : decode cX5_type 46 = .ok (.aload_n 0, 1) := by decide +kernel
theorem dX5_type_47 : decode cX5_type 47 = .ok (.getfield 13, 3) := by decide +kernel
theorem dX5_type_50 : decode cX5_type 50 = .ok (.ireturn, 1) := by decide +kernel
abbrev rm_X5_type : Room := { frames := 0, cells := 0, slots := 0, locals := 0 }
theorem w_X5_type_b12 {C : zC} (hx : z_ok C cX5_type RX5 0) (hn : z_nL C = 2) (hR : z_R C = rm_X5_type) {rr : Int × zS} (hq : z_fin C (some .int) (z_QI (z_g C) rr.1 rr.2)) (σ : zS) (h : f_X5_type_b12 σ = some rr) : z_W C σ 12 [] [] := by
  unfold f_X5_type_b12 at h
  refine z_iconst hx (n := (-1)) dX5_type_12 ?_
  cases h
  exact z_iret hx hq dX5_type_13

theorem w_X5_type {C : zC} (hx : z_ok C cX5_type RX5 0) (hn : z_nL C = 2) (hR : z_R C = rm_X5_type) {rr : Int × zS} (hq : z_fin C (some .int) (z_QI (z_g C) rr.1 rr.2)) (σ : zS) (x1 : Int) (h : f_X5_type σ x1 = some rr) : z_W C σ 0 [(0, .ref (z_ad (z_g C) 62)), (1, .int (zi x1))] [] := by
  unfold f_X5_type at h
  refine z_iload_n hx 1 dX5_type_0 rfl ?_
  refine z_bipush hx (n := 32) dX5_type_1 rfl ?_
  refine z_icmp_lt hx (tgt := 12) dX5_type_3 (by decide) h (fun h => ⟨h, by decide⟩) (fun hc h => ?_) (fun hc h => ?_)
  · refine z_sub [] rfl ?_
    exact w_X5_type_b12 hx hn hR hq σ h
  · refine z_iload_n hx 1 dX5_type_6 rfl ?_
    refine z_bipush hx (n := 126) dX5_type_7 rfl ?_
    refine z_icmp_le hx (tgt := 14) dX5_type_9 (by decide) h (fun h => ⟨h, by decide⟩) (fun hc h => ?_) (fun hc h => ?_)
    · refine z_aload_n hx 0 dX5_type_14 rfl ?_
      refine gf_X5_characters hx wf_X5_13 dX5_type_15 ?_
      refine z_bipush hx (n := 120) dX5_type_18 rfl ?_
      refine z_icmp_lt hx (tgt := 26) dX5_type_20 (by decide) h (fun h => ⟨h, by decide⟩) (fun hc h => ?_) (fun hc h => ?_)
      · refine z_aload_n hx 0 dX5_type_26 rfl ?_
        refine gf_X5_buffer hx wf_X5_9 dX5_type_27 ?_
        refine z_aload_n hx 0 dX5_type_30 rfl ?_
        refine gf_X5_characters hx wf_X5_13 dX5_type_31 ?_
        refine z_iload_n hx 1 dX5_type_34 rfl ?_
        refine z_iast hx (n := 120) (z_lt0 (z_ok_sd hx) (by decide)) (z_kb63 (z_ok_sd hx)) rfl (by decide) dX5_type_35 h (fun σ1 h => ?_)
        refine z_aload_n hx 0 dX5_type_36 rfl ?_
        refine z_dup hx dX5_type_37 rfl ?_
        refine gf_X5_characters hx wf_X5_13 dX5_type_38 ?_
        refine z_iconst hx (n := 1) dX5_type_41 ?_
        refine z_iadd hx dX5_type_42 ?_
        refine pf_X5_characters hx wf_X5_13 dX5_type_43 h (fun σ2 h => ?_)
        refine z_aload_n hx 0 dX5_type_46 rfl ?_
        refine gf_X5_characters hx wf_X5_13 dX5_type_47 ?_
        cases h
        exact z_iret hx hq dX5_type_50
      · refine z_bipush hx (n := (-3)) dX5_type_23 rfl ?_
        cases h
        exact z_iret hx hq dX5_type_25
    · refine z_sub [] rfl ?_
      exact w_X5_type_b12 hx hn hR hq σ h

theorem met_X5_type (l : Launch) (g : zG) (hg : g.1 = 0) {σ : zS} {x1 : Int} {rr : Int × zS} (h : f_X5_type σ x1 = some rr) : z_Met l yX5_type cX5_type 2 (some .int) rm_X5_type g [.ref (z_ad (g) 62), .int (zi x1)] σ (z_QI g rr.1 rr.2) := by
  refine z_enter (own := RX5) (sd := 0) (lv0 := [(0, .ref (z_ad (g) 62)), (1, .int (zi x1))]) (by decide) rfl (Nat.le_of_ble_eq_true rfl) hg rfl (fun C hx hl hgC hR hn hq => ?_)
  subst hgC
  refine z_sub [0, 1] rfl ?_
  exact w_X5_type hx hn hR hq σ x1 h
theorem dX5_append_0 : decode cX5_append 0 = .ok (.iload_n 1, 1) := by decide +kernel
theorem dX5_append_1 : decode cX5_append 1 = .ok (.ifCond .lt 21, 3) := by decide +kernel
theorem dX5_append_4 : decode cX5_append 4 = .ok (.iload_n 1, 1) := by decide +kernel
theorem dX5_append_5 : decode cX5_append 5 = .ok (.bipush 9, 2) := by decide +kernel
theorem dX5_append_7 : decode cX5_append 7 = .ok (.if_icmp .gt 15, 3) := by decide +kernel
theorem dX5_append_10 : decode cX5_append 10 = .ok (.iload_n 2, 1) := by decide +kernel
theorem dX5_append_11 : decode cX5_append 11 = .ok (.iconst 1, 1) := by decide +kernel
theorem dX5_append_12 : decode cX5_append 12 = .ok (.if_icmp .lt 10, 3) := by decide +kernel
theorem dX5_append_15 : decode cX5_append 15 = .ok (.iload_n 2, 1) := by decide +kernel
theorem dX5_append_16 : decode cX5_append 16 = .ok (.sipush 200, 3) := by decide +kernel
theorem dX5_append_19 : decode cX5_append 19 = .ok (.if_icmp .le 5, 3) := by decide +kernel
theorem dX5_append_22 : decode cX5_append 22 = .ok (.iconst (-1), 1) := by decide +kernel
theorem dX5_append_23 : decode cX5_append 23 = .ok (.ireturn, 1) := by decide +kernel
theorem dX5_append_24 : decode cX5_append 24 = .ok (.aload_n 0, 1) := by decide +kernel
theorem dX5_append_25 : decode cX5_append 25 = .ok (.getfield 20, 3) := by decide +kernel
theorem dX5_append_28 : decode cX5_append 28 = .ok (.getfield 66, 3) := by decide +kernel
theorem dX5_append_31 : decode cX5_append 31 = .ok (.iload_n 2, 1) := by decide +kernel
theorem dX5_append_32 : decode cX5_append 32 = .ok (.iadd, 1) := by decide +kernel
theorem dX5_append_33 : decode cX5_append 33 = .ok (.sipush 200, 3) := by decide +kernel
theorem dX5_append_36 : decode cX5_append 36 = .ok (.if_icmp .le 6, 3) := by decide +kernel
theorem dX5_append_39 : decode cX5_append 39 = .ok (.bipush (-3), 2) := by decide +kernel
theorem dX5_append_41 : decode cX5_append 41 = .ok (.ireturn, 1) := by decide +kernel
theorem dX5_append_42 : decode cX5_append 42 = .ok (.aload_n 0, 1) := by decide +kernel
theorem dX5_append_43 : decode cX5_append 43 = .ok (.getfield 27, 3) := by decide +kernel
theorem dX5_append_46 : decode cX5_append 46 = .ok (.aload_n 0, 1) := by decide +kernel
theorem dX5_append_47 : decode cX5_append 47 = .ok (.getfield 20, 3) := by decide +kernel
theorem dX5_append_50 : decode cX5_append 50 = .ok (.invokevirtual 56, 3) := by decide +kernel
theorem dX5_append_53 : decode cX5_append 53 = .ok (.iconst 0, 1) := by decide +kernel
theorem dX5_append_54 : decode cX5_append 54 = .ok (.istore_n 3, 1) := by decide +kernel
theorem dX5_append_55 : decode cX5_append 55 = .ok (.iload_n 3, 1) := by decide +kernel
theorem dX5_append_56 : decode cX5_append 56 = .ok (.iload_n 2, 1) := by decide +kernel
theorem dX5_append_57 : decode cX5_append 57 = .ok (.if_icmp .ge 17, 3) := by decide +kernel
theorem dX5_append_60 : decode cX5_append 60 = .ok (.aload_n 0, 1) := by decide +kernel
theorem dX5_append_61 : decode cX5_append 61 = .ok (.getfield 20, 3) := by decide +kernel
theorem dX5_append_64 : decode cX5_append 64 = .ok (.iload_n 1, 1) := by decide +kernel
theorem dX5_append_65 : decode cX5_append 65 = .ok (.invokevirtual 69, 3) := by decide +kernel
theorem dX5_append_68 : decode cX5_append 68 = .ok (.iinc 3 1, 3) := by decide +kernel
theorem dX5_append_71 : decode cX5_append 71 = .ok (.goto (-16), 3) := by decide +kernel
theorem dX5_append_74 : decode cX5_append 74 = .ok (.aload_n 0, 1) := by decide +kernel
theorem dX5_append_75 : decode cX5_append 75 = .ok (.getfield 20, 3) := by decide +kernel
theorem dX5_append_78 : decode cX5_append 78 = .ok (.getfield 66, 3) := by decide +kernel
theorem dX5_append_81 : decode cX5_append 81 = .ok (.ireturn, 1) := by decide +kernel
abbrev rm_X5_append : Room := { frames := 4, cells := 0, slots := 0, locals := 124 }
theorem w_X5_append_b55 {C : zC} (hx : z_ok C cX5_append RX5 0) (hn : z_nL C = 4) (hR : z_R C = rm_X5_append) {rr : Int × zS} (hq : z_fin C (some .int) (z_QI (z_g C) rr.1 rr.2)) {K55 : zS → Int → Int → Int → Option (Int × zS)} (hK55 : ∀ (σ : zS) (x1 : Int) (x2 : Int) (x3 : Int) , K55 σ x1 x2 x3 = some rr → z_W C σ 55 [(0, .ref (z_ad (z_g C) 62)), (1, .int (zi x1)), (2, .int (zi x2)), (3, .int (zi x3))] []) (σ : zS) (x1 : Int) (x2 : Int) (x3 : Int) (h : f_X5_append_b55 K55 σ x1 x2 x3 = some rr) : z_W C σ 55 [(0, .ref (z_ad (z_g C) 62)), (1, .int (zi x1)), (2, .int (zi x2)), (3, .int (zi x3))] [] := by
  unfold f_X5_append_b55 at h
  refine z_iload_n hx 3 dX5_append_55 rfl ?_
  refine z_iload_n hx 2 dX5_append_56 rfl ?_
  refine z_icmp_ge hx (tgt := 74) dX5_append_57 (by decide) h (fun h => h) (fun hc h => ?_) (fun hc h => ?_)
  · refine z_aload_n hx 0 dX5_append_74 rfl ?_
    refine gf_X5_recording hx wf_X5_20 dX5_append_75 ?_
    refine gf_X2_frames hx wf_X5_66 (show 0 < 6 by decide) dX5_append_78 ?_
    cases h
    exact z_iret hx hq dX5_append_81
  · refine z_aload_n hx 0 dX5_append_60 rfl ?_
    refine gf_X5_recording hx wf_X5_20 dX5_append_61 ?_
    refine z_iload_n hx 1 dX5_append_64 rfl ?_
    obtain ⟨⟨⟩, σ1, h65, h⟩ := z_bind_some h
    refine z_callv hx (As := [.int (zi x1)]) (k := 0) (met_X2_addFrame (z_l C) (z_g C) (z_ok_sd hx) (show 0 < 6 by decide) h65) (z_lt0 (z_ok_sd hx) (by decide)) (z_ka0 (z_ok_sd hx) (show 0 < 6 by decide) _) rfl rfl cv_X5_69 (z_room hR ⟨Nat.le_of_ble_eq_true rfl, Nat.le_of_ble_eq_true rfl⟩) ⟨rfl, rfl⟩ rfl rfl (Nat.le_of_ble_eq_true rfl) dX5_append_65 ?_
    refine z_iinc hx hn 3 (lv' := [(3, .int (zi (x3 + 1))), (0, .ref (z_ad (z_g C) 62)), (1, .int (zi x1)), (2, .int (zi x2))]) dX5_append_68 rfl (by decide) rfl ?_
    refine z_goto hx (tgt := 55) dX5_append_71 (by decide) ?_
    refine z_sub [1, 2, 3, 0] rfl ?_
    exact hK55 σ1 x1 x2 (x3 + 1) h

theorem w_X5_append_l55 {C : zC} (hx : z_ok C cX5_append RX5 0) (hn : z_nL C = 4) (hR : z_R C = rm_X5_append) {rr : Int × zS} (hq : z_fin C (some .int) (z_QI (z_g C) rr.1 rr.2)) : ∀ (n : Nat) (σ : zS) (x1 : Int) (x2 : Int) (x3 : Int) (_ : f_X5_append_l55 n σ x1 x2 x3 = some rr), z_W C σ 55 [(0, .ref (z_ad (z_g C) 62)), (1, .int (zi x1)), (2, .int (zi x2)), (3, .int (zi x3))] [] := by
  intro n
  induction n with
  | zero => intro σ x1 x2 x3 h; cases h
  | succ n ih =>
    intro σ x1 x2 x3 h
    exact w_X5_append_b55 hx hn hR hq ih σ x1 x2 x3 h
theorem w_X5_append_b22 {C : zC} (hx : z_ok C cX5_append RX5 0) (hn : z_nL C = 4) (hR : z_R C = rm_X5_append) {rr : Int × zS} (hq : z_fin C (some .int) (z_QI (z_g C) rr.1 rr.2)) (σ : zS) (h : f_X5_append_b22 σ = some rr) : z_W C σ 22 [] [] := by
  unfold f_X5_append_b22 at h
  refine z_iconst hx (n := (-1)) dX5_append_22 ?_
  cases h
  exact z_iret hx hq dX5_append_23

theorem w_X5_append {C : zC} (hx : z_ok C cX5_append RX5 0) (hn : z_nL C = 4) (hR : z_R C = rm_X5_append) {rr : Int × zS} (hq : z_fin C (some .int) (z_QI (z_g C) rr.1 rr.2)) (σ : zS) (x1 : Int) (x2 : Int) (h : f_X5_append σ x1 x2 = some rr) : z_W C σ 0 [(0, .ref (z_ad (z_g C) 62)), (1, .int (zi x1)), (2, .int (zi x2))] [] := by
  unfold f_X5_append at h
  refine z_iload_n hx 1 dX5_append_0 rfl ?_
  refine z_if_lt hx (tgt := 22) dX5_append_1 (by decide) h (fun h => h) (fun hc h => ?_) (fun hc h => ?_)
  · refine z_sub [] rfl ?_
    exact w_X5_append_b22 hx hn hR hq σ h
  · refine z_iload_n hx 1 dX5_append_4 rfl ?_
    refine z_bipush hx (n := 9) dX5_append_5 rfl ?_
    refine z_icmp_gt hx (tgt := 22) dX5_append_7 (by decide) h (fun h => ⟨h, by decide⟩) (fun hc h => ?_) (fun hc h => ?_)
    · refine z_sub [] rfl ?_
      exact w_X5_append_b22 hx hn hR hq σ h
    · refine z_iload_n hx 2 dX5_append_10 rfl ?_
      refine z_iconst hx (n := 1) dX5_append_11 ?_
      refine z_icmp_lt hx (tgt := 22) dX5_append_12 (by decide) h (fun h => ⟨h, by decide⟩) (fun hc h => ?_) (fun hc h => ?_)
      · refine z_sub [] rfl ?_
        exact w_X5_append_b22 hx hn hR hq σ h
      · refine z_iload_n hx 2 dX5_append_15 rfl ?_
        refine z_sipush hx (n := 200) dX5_append_16 rfl ?_
        refine z_icmp_le hx (tgt := 24) dX5_append_19 (by decide) h (fun h => ⟨h, by decide⟩) (fun hc h => ?_) (fun hc h => ?_)
        · refine z_aload_n hx 0 dX5_append_24 rfl ?_
          refine gf_X5_recording hx wf_X5_20 dX5_append_25 ?_
          refine gf_X2_frames hx wf_X5_66 (show 0 < 6 by decide) dX5_append_28 ?_
          refine z_iload_n hx 2 dX5_append_31 rfl ?_
          refine z_iadd hx dX5_append_32 ?_
          refine z_sipush hx (n := 200) dX5_append_33 rfl ?_
          refine z_icmp_le hx (tgt := 42) dX5_append_36 (by decide) h (fun h => ⟨h, by decide⟩) (fun hc h => ?_) (fun hc h => ?_)
          · refine z_aload_n hx 0 dX5_append_42 rfl ?_
            refine gf_X5_history hx wf_X5_27 dX5_append_43 ?_
            refine z_aload_n hx 0 dX5_append_46 rfl ?_
            refine gf_X5_recording hx wf_X5_20 dX5_append_47 ?_
            obtain ⟨⟨⟩, σ1, h50, h⟩ := z_bind_some h
            refine z_callv hx (As := [.ref (z_ad (z_g C) 0)]) (k := 60) (met_X1_keep (z_l C) (z_g C) (z_ok_sd hx) (show 0 < 6 by decide) h50) (z_lt0 (z_ok_sd hx) (by decide)) (z_kb60 (z_ok_sd hx) _) rfl rfl cv_X5_56 (z_room hR ⟨Nat.le_of_ble_eq_true rfl, Nat.le_of_ble_eq_true rfl⟩) ⟨rfl, rfl⟩ rfl rfl (Nat.le_of_ble_eq_true rfl) dX5_append_50 ?_
            refine z_iconst hx (n := 0) dX5_append_53 ?_
            refine z_istore_n hx hn (lv' := [(3, .int (zi 0)), (0, .ref (z_ad (z_g C) 62)), (1, .int (zi x1)), (2, .int (zi x2))]) dX5_append_54 (by decide) rfl ?_
            refine z_sub [1, 2, 3, 0] rfl ?_
            exact w_X5_append_l55 hx hn hR hq z_fuel σ1 x1 x2 0 h
          · refine z_bipush hx (n := (-3)) dX5_append_39 rfl ?_
            cases h
            exact z_iret hx hq dX5_append_41
        · refine z_sub [] rfl ?_
          exact w_X5_append_b22 hx hn hR hq σ h

theorem met_X5_append (l : Launch) (g : zG) (hg : g.1 = 0) {σ : zS} {x1 : Int} {x2 : Int} {rr : Int × zS} (h : f_X5_append σ x1 x2 = some rr) : z_Met l yX5_append cX5_append 4 (some .int) rm_X5_append g [.ref (z_ad (g) 62), .int (zi x1), .int (zi x2)] σ (z_QI g rr.1 rr.2) := by
  refine z_enter (own := RX5) (sd := 0) (lv0 := [(0, .ref (z_ad (g) 62)), (1, .int (zi x1)), (2, .int (zi x2))]) (by decide) rfl (Nat.le_of_ble_eq_true rfl) hg rfl (fun C hx hl hgC hR hn hq => ?_)
  subst hgC
  refine z_sub [0, 1, 2] rfl ?_
  exact w_X5_append hx hn hR hq σ x1 x2 h
theorem dX5_babble_0 : decode cX5_babble 0 = .ok (.iload_n 2, 1) := by decide +kernel
theorem dX5_babble_1 : decode cX5_babble 1 = .ok (.iconst 1, 1) := by decide +kernel
theorem dX5_babble_2 : decode cX5_babble 2 = .ok (.if_icmp .lt 10, 3) := by decide +kernel
theorem dX5_babble_5 : decode cX5_babble 5 = .ok (.iload_n 2, 1) := by decide +kernel
theorem dX5_babble_6 : decode cX5_babble 6 = .ok (.sipush 200, 3) := by decide +kernel
theorem dX5_babble_9 : decode cX5_babble 9 = .ok (.if_icmp .le 5, 3) := by decide +kernel
theorem dX5_babble_12 : decode cX5_babble 12 = .ok (.iconst (-1), 1) := by decide +kernel
theorem dX5_babble_13 : decode cX5_babble 13 = .ok (.ireturn, 1) := by decide +kernel
theorem dX5_babble_14 : decode cX5_babble 14 = .ok (.aload_n 0, 1) := by decide +kernel
theorem dX5_babble_15 : decode cX5_babble 15 = .ok (.getfield 20, 3) := by decide +kernel
theorem dX5_babble_18 : decode cX5_babble 18 = .ok (.getfield 66, 3) := by decide +kernel
theorem dX5_babble_21 : decode cX5_babble 21 = .ok (.iload_n 2, 1) := by decide +kernel
theorem dX5_babble_22 : decode cX5_babble 22 = .ok (.iadd, 1) := by decide +kernel
theorem dX5_babble_23 : decode cX5_babble 23 = .ok (.sipush 200, 3) := by decide +kernel
theorem dX5_babble_26 : decode cX5_babble 26 = .ok (.if_icmp .le 6, 3) := by decide +kernel
theorem dX5_babble_29 : decode cX5_babble 29 = .ok (.bipush (-3), 2) := by decide +kernel
theorem dX5_babble_31 : decode cX5_babble 31 = .ok (.ireturn, 1) := by decide +kernel
theorem dX5_babble_32 : decode cX5_babble 32 = .ok (.aload_n 0, 1) := by decide +kernel
theorem dX5_babble_33 : decode cX5_babble 33 = .ok (.getfield 27, 3) := by decide +kernel
theorem dX5_babble_36 : decode cX5_babble 36 = .ok (.aload_n 0, 1) := by decide +kernel
theorem dX5_babble_37 : decode cX5_babble 37 = .ok (.getfield 20, 3) := by decide +kernel
theorem dX5_babble_40 : decode cX5_babble 40 = .ok (.invokevirtual 56, 3) := by decide +kernel
theorem dX5_babble_43 : decode cX5_babble 43 = .ok (.iload_n 1, 1) := by decide +kernel
theorem dX5_babble_44 : decode cX5_babble 44 = .ok (.istore_n 3, 1) := by decide +kernel
theorem dX5_babble_45 : decode cX5_babble 45 = .ok (.iconst 0, 1) := by decide +kernel
theorem dX5_babble_46 : decode cX5_babble 46 = .ok (.istore 4, 2) := by decide +kernel
theorem dX5_babble_48 : decode cX5_babble 48 = .ok (.iload 4, 2) := by decide +kernel
theorem dX5_babble_50 : decode cX5_babble 50 = .ok (.iload_n 2, 1) := by decide +kernel
theorem dX5_babble_51 : decode cX5_babble 51 = .ok (.if_icmp .ge 32, 3) := by decide +kernel
theorem dX5_babble_54 : decode cX5_babble 54 = .ok (.ldc 73, 2) := by decide +kernel
theorem dX5_babble_56 : decode cX5_babble 56 = .ok (.iload_n 3, 1) := by decide +kernel
theorem dX5_babble_57 : decode cX5_babble 57 = .ok (.imul, 1) := by decide +kernel
theorem dX5_babble_58 : decode cX5_babble 58 = .ok (.sipush 12345, 3) := by decide +kernel
theorem dX5_babble_61 : decode cX5_babble 61 = .ok (.iadd, 1) := by decide +kernel
theorem dX5_babble_62 : decode cX5_babble 62 = .ok (.istore_n 3, 1) := by decide +kernel
theorem dX5_babble_63 : decode cX5_babble 63 = .ok (.aload_n 0, 1) := by decide +kernel
theorem dX5_babble_64 : decode cX5_babble 64 = .ok (.getfield 20, 3) := by decide +kernel
theorem dX5_babble_67 : decode cX5_babble 67 = .ok (.iload_n 3, 1) := by decide +kernel
theorem dX5_babble_68 : decode cX5_babble 68 = .ok (.bipush 16, 2) := by decide +kernel
theorem dX5_babble_70 : decode cX5_babble 70 = .ok (.iushr, 1) := by decide +kernel
theorem dX5_babble_71 : decode cX5_babble 71 = .ok (.bipush 10, 2) := by decide +kernel
theorem dX5_babble_73 : decode cX5_babble 73 = .ok (.irem, 1) := by decide +kernel
theorem dX5_babble_74 : decode cX5_babble 74 = .ok (.invokevirtual 69, 3) := by decide +kernel
theorem dX5_babble_77 : decode cX5_babble 77 = .ok (.iinc 4 1, 3) := by decide +kernel
theorem dX5_babble_80 : decode cX5_babble 80 = .ok (.goto (-32), 3) := by decide +kernel
theorem dX5_babble_83 : decode cX5_babble 83 = .ok (.aload_n 0, 1) := by decide +kernel
theorem dX5_babble_84 : decode cX5_babble 84 = .ok (.getfield 20, 3) := by decide +kernel
theorem dX5_babble_87 : decode cX5_babble 87 = .ok (.getfield 66, 3) := by decide +kernel
theorem dX5_babble_90 : decode cX5_babble 90 = .ok (.ireturn, 1) := by decide +kernel
abbrev rm_X5_babble : Room := { frames := 4, cells := 0, slots := 0, locals := 124 }
theorem w_X5_babble_b48 {C : zC} (hx : z_ok C cX5_babble RX5 0) (hn : z_nL C = 5) (hR : z_R C = rm_X5_babble) {rr : Int × zS} (hq : z_fin C (some .int) (z_QI (z_g C) rr.1 rr.2)) {K48 : zS → Int → Int → Int → Option (Int × zS)} (hK48 : ∀ (σ : zS) (x2 : Int) (x3 : Int) (x4 : Int) , K48 σ x2 x3 x4 = some rr → z_W C σ 48 [(0, .ref (z_ad (z_g C) 62)), (2, .int (zi x2)), (3, .int (zi x3)), (4, .int (zi x4))] []) (σ : zS) (x2 : Int) (x3 : Int) (x4 : Int) (h : f_X5_babble_b48 K48 σ x2 x3 x4 = some rr) : z_W C σ 48 [(0, .ref (z_ad (z_g C) 62)), (2, .int (zi x2)), (3, .int (zi x3)), (4, .int (zi x4))] [] := by
  unfold f_X5_babble_b48 at h
  refine z_iload hx 3 dX5_babble_48 rfl ?_
  refine z_iload_n hx 1 dX5_babble_50 rfl ?_
  refine z_icmp_ge hx (tgt := 83) dX5_babble_51 (by decide) h (fun h => h) (fun hc h => ?_) (fun hc h => ?_)
  · refine z_aload_n hx 0 dX5_babble_83 rfl ?_
    refine gf_X5_recording hx wf_X5_20 dX5_babble_84 ?_
    refine gf_X2_frames hx wf_X5_66 (show 0 < 6 by decide) dX5_babble_87 ?_
    cases h
    exact z_iret hx hq dX5_babble_90
  · refine z_ldc hx (n := 1103515245) wk_X5_73 dX5_babble_54 ?_
    refine z_iload_n hx 2 dX5_babble_56 rfl ?_
    refine z_imul hx dX5_babble_57 ?_
    refine z_sipush hx (n := 12345) dX5_babble_58 rfl ?_
    refine z_iadd hx dX5_babble_61 ?_
    refine z_istore_n hx hn (lv' := [(3, .int (zi ((1103515245 * x3) + 12345))), (0, .ref (z_ad (z_g C) 62)), (2, .int (zi x2)), (4, .int (zi x4))]) dX5_babble_62 (by decide) rfl ?_
    refine z_aload_n hx 1 dX5_babble_63 rfl ?_
    refine gf_X5_recording hx wf_X5_20 dX5_babble_64 ?_
    refine z_iload_n hx 0 dX5_babble_67 rfl ?_
    refine z_bipush hx (n := 16) dX5_babble_68 rfl ?_
    refine z_iushr16 hx dX5_babble_70 ?_
    refine z_bipush hx (n := 10) dX5_babble_71 rfl ?_
    refine z_irem hx dX5_babble_73 h (fun h => ?_)
    obtain ⟨⟨⟩, σ1, h74, h⟩ := z_bind_some h
    refine z_callv hx (As := [.int (zi ((z_ushr ((1103515245 * x3) + 12345) 16).tmod 10))]) (k := 0) (met_X2_addFrame (z_l C) (z_g C) (z_ok_sd hx) (show 0 < 6 by decide) h74) (z_lt0 (z_ok_sd hx) (by decide)) (z_ka0 (z_ok_sd hx) (show 0 < 6 by decide) _) rfl rfl cv_X5_69 (z_room hR ⟨Nat.le_of_ble_eq_true rfl, Nat.le_of_ble_eq_true rfl⟩) ⟨rfl, rfl⟩ rfl rfl (Nat.le_of_ble_eq_true rfl) dX5_babble_74 ?_
    refine z_iinc hx hn 3 (lv' := [(4, .int (zi (x4 + 1))), (3, .int (zi ((1103515245 * x3) + 12345))), (0, .ref (z_ad (z_g C) 62)), (2, .int (zi x2))]) dX5_babble_77 rfl (by decide) rfl ?_
    refine z_goto hx (tgt := 48) dX5_babble_80 (by decide) ?_
    refine z_sub [2, 3, 1, 0] rfl ?_
    exact hK48 σ1 x2 ((1103515245 * x3) + 12345) (x4 + 1) h

theorem w_X5_babble_l48 {C : zC} (hx : z_ok C cX5_babble RX5 0) (hn : z_nL C = 5) (hR : z_R C = rm_X5_babble) {rr : Int × zS} (hq : z_fin C (some .int) (z_QI (z_g C) rr.1 rr.2)) : ∀ (n : Nat) (σ : zS) (x2 : Int) (x3 : Int) (x4 : Int) (_ : f_X5_babble_l48 n σ x2 x3 x4 = some rr), z_W C σ 48 [(0, .ref (z_ad (z_g C) 62)), (2, .int (zi x2)), (3, .int (zi x3)), (4, .int (zi x4))] [] := by
  intro n
  induction n with
  | zero => intro σ x2 x3 x4 h; cases h
  | succ n ih =>
    intro σ x2 x3 x4 h
    exact w_X5_babble_b48 hx hn hR hq ih σ x2 x3 x4 h
theorem w_X5_babble_b12 {C : zC} (hx : z_ok C cX5_babble RX5 0) (hn : z_nL C = 5) (hR : z_R C = rm_X5_babble) {rr : Int × zS} (hq : z_fin C (some .int) (z_QI (z_g C) rr.1 rr.2)) (σ : zS) (h : f_X5_babble_b12 σ = some rr) : z_W C σ 12 [] [] := by
  unfold f_X5_babble_b12 at h
  refine z_iconst hx (n := (-1)) dX5_babble_12 ?_
  cases h
  exact z_iret hx hq dX5_babble_13

theorem w_X5_babble {C : zC} (hx : z_ok C cX5_babble RX5 0) (hn : z_nL C = 5) (hR : z_R C = rm_X5_babble) {rr : Int × zS} (hq : z_fin C (some .int) (z_QI (z_g C) rr.1 rr.2)) (σ : zS) (x1 : Int) (x2 : Int) (h : f_X5_babble σ x1 x2 = some rr) : z_W C σ 0 [(0, .ref (z_ad (z_g C) 62)), (1, .int (zi x1)), (2, .int (zi x2))] [] := by
  unfold f_X5_babble at h
  refine z_iload_n hx 2 dX5_babble_0 rfl ?_
  refine z_iconst hx (n := 1) dX5_babble_1 ?_
  refine z_icmp_lt hx (tgt := 12) dX5_babble_2 (by decide) h (fun h => ⟨h, by decide⟩) (fun hc h => ?_) (fun hc h => ?_)
  · refine z_sub [] rfl ?_
    exact w_X5_babble_b12 hx hn hR hq σ h
  · refine z_iload_n hx 2 dX5_babble_5 rfl ?_
    refine z_sipush hx (n := 200) dX5_babble_6 rfl ?_
    refine z_icmp_le hx (tgt := 14) dX5_babble_9 (by decide) h (fun h => ⟨h, by decide⟩) (fun hc h => ?_) (fun hc h => ?_)
    · refine z_aload_n hx 0 dX5_babble_14 rfl ?_
      refine gf_X5_recording hx wf_X5_20 dX5_babble_15 ?_
      refine gf_X2_frames hx wf_X5_66 (show 0 < 6 by decide) dX5_babble_18 ?_
      refine z_iload_n hx 2 dX5_babble_21 rfl ?_
      refine z_iadd hx dX5_babble_22 ?_
      refine z_sipush hx (n := 200) dX5_babble_23 rfl ?_
      refine z_icmp_le hx (tgt := 32) dX5_babble_26 (by decide) h (fun h => ⟨h, by decide⟩) (fun hc h => ?_) (fun hc h => ?_)
      · refine z_aload_n hx 0 dX5_babble_32 rfl ?_
        refine gf_X5_history hx wf_X5_27 dX5_babble_33 ?_
        refine z_aload_n hx 0 dX5_babble_36 rfl ?_
        refine gf_X5_recording hx wf_X5_20 dX5_babble_37 ?_
        obtain ⟨⟨⟩, σ1, h40, h⟩ := z_bind_some h
        refine z_callv hx (As := [.ref (z_ad (z_g C) 0)]) (k := 60) (met_X1_keep (z_l C) (z_g C) (z_ok_sd hx) (show 0 < 6 by decide) h40) (z_lt0 (z_ok_sd hx) (by decide)) (z_kb60 (z_ok_sd hx) _) rfl rfl cv_X5_56 (z_room hR ⟨Nat.le_of_ble_eq_true rfl, Nat.le_of_ble_eq_true rfl⟩) ⟨rfl, rfl⟩ rfl rfl (Nat.le_of_ble_eq_true rfl) dX5_babble_40 ?_
        refine z_iload_n hx 1 dX5_babble_43 rfl ?_
        refine z_istore_n hx hn (lv' := [(3, .int (zi x1)), (0, .ref (z_ad (z_g C) 62)), (1, .int (zi x1)), (2, .int (zi x2))]) dX5_babble_44 (by decide) rfl ?_
        refine z_iconst hx (n := 0) dX5_babble_45 ?_
        refine z_istore hx hn (lv' := [(4, .int (zi 0)), (3, .int (zi x1)), (0, .ref (z_ad (z_g C) 62)), (1, .int (zi x1)), (2, .int (zi x2))]) dX5_babble_46 (by decide) rfl ?_
        refine z_sub [2, 4, 1, 0] rfl ?_
        exact w_X5_babble_l48 hx hn hR hq z_fuel σ1 x2 x1 0 h
      · refine z_bipush hx (n := (-3)) dX5_babble_29 rfl ?_
        cases h
        exact z_iret hx hq dX5_babble_31
    · refine z_sub [] rfl ?_
      exact w_X5_babble_b12 hx hn hR hq σ h

theorem met_X5_babble (l : Launch) (g : zG) (hg : g.1 = 0) {σ : zS} {x1 : Int} {x2 : Int} {rr : Int × zS} (h : f_X5_babble σ x1 x2 = some rr) : z_Met l yX5_babble cX5_babble 5 (some .int) rm_X5_babble g [.ref (z_ad (g) 62), .int (zi x1), .int (zi x2)] σ (z_QI g rr.1 rr.2) := by
  refine z_enter (own := RX5) (sd := 0) (lv0 := [(0, .ref (z_ad (g) 62)), (1, .int (zi x1)), (2, .int (zi x2))]) (by decide) rfl (Nat.le_of_ble_eq_true rfl) hg rfl (fun C hx hl hgC hR hn hq => ?_)
  subst hgC
  refine z_sub [0, 1, 2] rfl ?_
  exact w_X5_babble hx hn hR hq σ x1 x2 h
theorem dX5_mark_0 : decode cX5_mark 0 = .ok (.iload_n 1, 1) := by decide +kernel
theorem dX5_mark_1 : decode cX5_mark 1 = .ok (.ifCond .lt 20, 3) := by decide +kernel
theorem dX5_mark_4 : decode cX5_mark 4 = .ok (.iload_n 1, 1) := by decide +kernel
theorem dX5_mark_5 : decode cX5_mark 5 = .ok (.iconst 3, 1) := by decide +kernel
theorem dX5_mark_6 : decode cX5_mark 6 = .ok (.if_icmp .gt 15, 3) := by decide +kernel
theorem dX5_mark_9 : decode cX5_mark 9 = .ok (.iload 4, 2) := by decide +kernel
theorem dX5_mark_11 : decode cX5_mark 11 = .ok (.ifCond .lt 10, 3) := by decide +kernel
theorem dX5_mark_14 : decode cX5_mark 14 = .ok (.iload 4, 2) := by decide +kernel
theorem dX5_mark_16 : decode cX5_mark 16 = .ok (.bipush 100, 2) := by decide +kernel
theorem dX5_mark_18 : decode cX5_mark 18 = .ok (.if_icmp .le 5, 3) := by decide +kernel
theorem dX5_mark_21 : decode cX5_mark 21 = .ok (.iconst (-1), 1) := by decide +kernel
theorem dX5_mark_22 : decode cX5_mark 22 = .ok (.ireturn, 1) := by decide +kernel
theorem dX5_mark_23 : decode cX5_mark 23 = .ok (.iload_n 2, 1) := by decide +kernel
theorem dX5_mark_24 : decode cX5_mark 24 = .ok (.ifCond .lt 19, 3) := by decide +kernel
theorem dX5_mark_27 : decode cX5_mark 27 = .ok (.iload_n 3, 1) := by decide +kernel
theorem dX5_mark_28 : decode cX5_mark 28 = .ok (.aload_n 0, 1) := by decide +kernel
theorem dX5_mark_29 : decode cX5_mark 29 = .ok (.getfield 20, 3) := by decide +kernel
theorem dX5_mark_32 : decode cX5_mark 32 = .ok (.getfield 66, 3) := by decide +kernel
theorem dX5_mark_35 : decode cX5_mark 35 = .ok (.if_icmp .gt 8, 3) := by decide +kernel
theorem dX5_mark_38 : decode cX5_mark 38 = .ok (.iload_n 3, 1) := by decide +kernel
theorem dX5_mark_39 : decode cX5_mark 39 = .ok (.iload_n 2, 1) := by decide +kernel
theorem dX5_mark_40 : decode cX5_mark 40 = .ok (.if_icmp .gt 5, 3) := by decide +kernel
theorem dX5_mark_43 : decode cX5_mark 43 = .ok (.iconst (-1), 1) := by decide +kernel
theorem dX5_mark_44 : decode cX5_mark 44 = .ok (.ireturn, 1) := by decide +kernel
theorem dX5_mark_45 : decode cX5_mark 45 = .ok (.aload_n 0, 1) := by decide +kernel
theorem dX5_mark_46 : decode cX5_mark 46 = .ok (.getfield 20, 3) := by decide +kernel
theorem dX5_mark_49 : decode cX5_mark 49 = .ok (.iload_n 2, 1) := by decide +kernel
theorem dX5_mark_50 : decode cX5_mark 50 = .ok (.iload_n 3, 1) := by decide +kernel
theorem dX5_mark_51 : decode cX5_mark 51 = .ok (.invokevirtual 74, 3) := by decide +kernel
theorem dX5_mark_54 : decode cX5_mark 54 = .ok (.ifCond .eq 6, 3) := by decide +kernel
theorem dX5_mark_57 : decode cX5_mark 57 = .ok (.bipush (-2), 2) := by decide +kernel
theorem dX5_mark_59 : decode cX5_mark 59 = .ok (.ireturn, 1) := by decide +kernel
theorem dX5_mark_60 : decode cX5_mark 60 = .ok (.aload_n 0, 1) := by decide +kernel
theorem dX5_mark_61 : decode cX5_mark 61 = .ok (.getfield 20, 3) := by decide +kernel
theorem dX5_mark_64 : decode cX5_mark 64 = .ok (.getfield 78, 3) := by decide +kernel
theorem dX5_mark_67 : decode cX5_mark 67 = .ok (.bipush 20, 2) := by decide +kernel
theorem dX5_mark_69 : decode cX5_mark 69 = .ok (.if_icmp .lt 6, 3) := by decide +kernel
theorem dX5_mark_72 : decode cX5_mark 72 = .ok (.bipush (-3), 2) := by decide +kernel
theorem dX5_mark_74 : decode cX5_mark 74 = .ok (.ireturn, 1) := by decide +kernel
theorem dX5_mark_75 : decode cX5_mark 75 = .ok (.aload_n 0, 1) := by decide +kernel
theorem dX5_mark_76 : decode cX5_mark 76 = .ok (.getfield 27, 3) := by decide +kernel
theorem dX5_mark_79 : decode cX5_mark 79 = .ok (.aload_n 0, 1) := by decide +kernel
theorem dX5_mark_80 : decode cX5_mark 80 = .ok (.getfield 20, 3) := by decide +kernel
theorem dX5_mark_83 : decode cX5_mark 83 = .ok (.invokevirtual 56, 3) := by decide +kernel
theorem dX5_mark_86 : decode cX5_mark 86 = .ok (.aload_n 0, 1) := by decide +kernel
theorem dX5_mark_87 : decode cX5_mark 87 = .ok (.getfield 20, 3) := by decide +kernel
theorem dX5_mark_90 : decode cX5_mark 90 = .ok (.iload_n 1, 1) := by decide +kernel
theorem dX5_mark_91 : decode cX5_mark 91 = .ok (.iload_n 2, 1) := by decide +kernel
theorem dX5_mark_92 : decode cX5_mark 92 = .ok (.iload_n 3, 1) := by decide +kernel
theorem dX5_mark_93 : decode cX5_mark 93 = .ok (.iload 4, 2) := by decide +kernel
theorem dX5_mark_95 : decode cX5_mark 95 = .ok (.invokevirtual 81, 3) := by decide +kernel
theorem dX5_mark_98 : decode cX5_mark 98 = .ok (.ireturn, 1) := by decide +kernel
abbrev rm_X5_mark : Room := { frames := 4, cells := 0, slots := 0, locals := 124 }
theorem w_X5_mark_b43 {C : zC} (hx : z_ok C cX5_mark RX5 0) (hn : z_nL C = 5) (hR : z_R C = rm_X5_mark) {rr : Int × zS} (hq : z_fin C (some .int) (z_QI (z_g C) rr.1 rr.2)) (σ : zS) (h : f_X5_mark_b43 σ = some rr) : z_W C σ 43 [] [] := by
  unfold f_X5_mark_b43 at h
  refine z_iconst hx (n := (-1)) dX5_mark_43 ?_
  cases h
  exact z_iret hx hq dX5_mark_44

theorem w_X5_mark_b21 {C : zC} (hx : z_ok C cX5_mark RX5 0) (hn : z_nL C = 5) (hR : z_R C = rm_X5_mark) {rr : Int × zS} (hq : z_fin C (some .int) (z_QI (z_g C) rr.1 rr.2)) (σ : zS) (h : f_X5_mark_b21 σ = some rr) : z_W C σ 21 [] [] := by
  unfold f_X5_mark_b21 at h
  refine z_iconst hx (n := (-1)) dX5_mark_21 ?_
  cases h
  exact z_iret hx hq dX5_mark_22

theorem w_X5_mark {C : zC} (hx : z_ok C cX5_mark RX5 0) (hn : z_nL C = 5) (hR : z_R C = rm_X5_mark) {rr : Int × zS} (hq : z_fin C (some .int) (z_QI (z_g C) rr.1 rr.2)) (σ : zS) (x1 : Int) (x2 : Int) (x3 : Int) (x4 : Int) (h : f_X5_mark σ x1 x2 x3 x4 = some rr) : z_W C σ 0 [(0, .ref (z_ad (z_g C) 62)), (1, .int (zi x1)), (2, .int (zi x2)), (3, .int (zi x3)), (4, .int (zi x4))] [] := by
  unfold f_X5_mark at h
  refine z_iload_n hx 1 dX5_mark_0 rfl ?_
  refine z_if_lt hx (tgt := 21) dX5_mark_1 (by decide) h (fun h => h) (fun hc h => ?_) (fun hc h => ?_)
  · refine z_sub [] rfl ?_
    exact w_X5_mark_b21 hx hn hR hq σ h
  · refine z_iload_n hx 1 dX5_mark_4 rfl ?_
    refine z_iconst hx (n := 3) dX5_mark_5 ?_
    refine z_icmp_gt hx (tgt := 21) dX5_mark_6 (by decide) h (fun h => ⟨h, by decide⟩) (fun hc h => ?_) (fun hc h => ?_)
    · refine z_sub [] rfl ?_
      exact w_X5_mark_b21 hx hn hR hq σ h
    · refine z_iload hx 4 dX5_mark_9 rfl ?_
      refine z_if_lt hx (tgt := 21) dX5_mark_11 (by decide) h (fun h => h) (fun hc h => ?_) (fun hc h => ?_)
      · refine z_sub [] rfl ?_
        exact w_X5_mark_b21 hx hn hR hq σ h
      · refine z_iload hx 4 dX5_mark_14 rfl ?_
        refine z_bipush hx (n := 100) dX5_mark_16 rfl ?_
        refine z_icmp_le hx (tgt := 23) dX5_mark_18 (by decide) h (fun h => ⟨h, by decide⟩) (fun hc h => ?_) (fun hc h => ?_)
        · refine z_iload_n hx 2 dX5_mark_23 rfl ?_
          refine z_if_lt hx (tgt := 43) dX5_mark_24 (by decide) h (fun h => h) (fun hc h => ?_) (fun hc h => ?_)
          · refine z_sub [] rfl ?_
            exact w_X5_mark_b43 hx hn hR hq σ h
          · refine z_iload_n hx 3 dX5_mark_27 rfl ?_
            refine z_aload_n hx 0 dX5_mark_28 rfl ?_
            refine gf_X5_recording hx wf_X5_20 dX5_mark_29 ?_
            refine gf_X2_frames hx wf_X5_66 (show 0 < 6 by decide) dX5_mark_32 ?_
            refine z_icmp_gt hx (tgt := 43) dX5_mark_35 (by decide) h (fun h => h) (fun hc h => ?_) (fun hc h => ?_)
            · refine z_sub [] rfl ?_
              exact w_X5_mark_b43 hx hn hR hq σ h
            · refine z_iload_n hx 3 dX5_mark_38 rfl ?_
              refine z_iload_n hx 2 dX5_mark_39 rfl ?_
              refine z_icmp_gt hx (tgt := 45) dX5_mark_40 (by decide) h (fun h => h) (fun hc h => ?_) (fun hc h => ?_)
              · refine z_aload_n hx 0 dX5_mark_45 rfl ?_
                refine gf_X5_recording hx wf_X5_20 dX5_mark_46 ?_
                refine z_iload_n hx 2 dX5_mark_49 rfl ?_
                refine z_iload_n hx 3 dX5_mark_50 rfl ?_
                obtain ⟨r2, σ1, h51, h⟩ := z_bind_some h
                refine z_calli hx (As := [.int (zi x2), .int (zi x3)]) (k := 0) (met_X2_overlaps (z_l C) (z_g C) (z_ok_sd hx) (show 0 < 6 by decide) h51) (z_lt0 (z_ok_sd hx) (by decide)) (z_ka0 (z_ok_sd hx) (show 0 < 6 by decide) _) rfl rfl cv_X5_74 (z_room hR ⟨Nat.le_of_ble_eq_true rfl, Nat.le_of_ble_eq_true rfl⟩) ⟨rfl, rfl⟩ rfl rfl (Nat.le_of_ble_eq_true rfl) dX5_mark_51 ?_
                refine z_if_eq hx (tgt := 60) dX5_mark_54 (by decide) h (fun h => h) (fun hc h => ?_) (fun hc h => ?_)
                · refine z_aload_n hx 0 dX5_mark_60 rfl ?_
                  refine gf_X5_recording hx wf_X5_20 dX5_mark_61 ?_
                  refine gf_X2_marks hx wf_X5_78 (show 0 < 6 by decide) dX5_mark_64 ?_
                  refine z_bipush hx (n := 20) dX5_mark_67 rfl ?_
                  refine z_icmp_lt hx (tgt := 75) dX5_mark_69 (by decide) h (fun h => ⟨h, by decide⟩) (fun hc h => ?_) (fun hc h => ?_)
                  · refine z_aload_n hx 0 dX5_mark_75 rfl ?_
                    refine gf_X5_history hx wf_X5_27 dX5_mark_76 ?_
                    refine z_aload_n hx 0 dX5_mark_79 rfl ?_
                    refine gf_X5_recording hx wf_X5_20 dX5_mark_80 ?_
                    obtain ⟨⟨⟩, σ3, h83, h⟩ := z_bind_some h
                    refine z_callv hx (As := [.ref (z_ad (z_g C) 0)]) (k := 60) (met_X1_keep (z_l C) (z_g C) (z_ok_sd hx) (show 0 < 6 by decide) h83) (z_lt0 (z_ok_sd hx) (by decide)) (z_kb60 (z_ok_sd hx) _) rfl rfl cv_X5_56 (z_room hR ⟨Nat.le_of_ble_eq_true rfl, Nat.le_of_ble_eq_true rfl⟩) ⟨rfl, rfl⟩ rfl rfl (Nat.le_of_ble_eq_true rfl) dX5_mark_83 ?_
                    refine z_aload_n hx 0 dX5_mark_86 rfl ?_
                    refine gf_X5_recording hx wf_X5_20 dX5_mark_87 ?_
                    refine z_iload_n hx 1 dX5_mark_90 rfl ?_
                    refine z_iload_n hx 2 dX5_mark_91 rfl ?_
                    refine z_iload_n hx 3 dX5_mark_92 rfl ?_
                    refine z_iload hx 4 dX5_mark_93 rfl ?_
                    obtain ⟨r5, σ4, h95, h⟩ := z_bind_some h
                    refine z_calli hx (As := [.int (zi x1), .int (zi x2), .int (zi x3), .int (zi x4)]) (k := 0) (met_X2_addMark (z_l C) (z_g C) (z_ok_sd hx) (show 0 < 6 by decide) h95) (z_lt0 (z_ok_sd hx) (by decide)) (z_ka0 (z_ok_sd hx) (show 0 < 6 by decide) _) rfl rfl cv_X5_81 (z_room hR ⟨Nat.le_of_ble_eq_true rfl, Nat.le_of_ble_eq_true rfl⟩) ⟨rfl, rfl⟩ rfl rfl (Nat.le_of_ble_eq_true rfl) dX5_mark_95 ?_
                    cases h
                    exact z_iret hx hq dX5_mark_98
                  · refine z_bipush hx (n := (-3)) dX5_mark_72 rfl ?_
                    cases h
                    exact z_iret hx hq dX5_mark_74
                · refine z_bipush hx (n := (-2)) dX5_mark_57 rfl ?_
                  cases h
                  exact z_iret hx hq dX5_mark_59
              · refine z_sub [] rfl ?_
                exact w_X5_mark_b43 hx hn hR hq σ h
        · refine z_sub [] rfl ?_
          exact w_X5_mark_b21 hx hn hR hq σ h

theorem met_X5_mark (l : Launch) (g : zG) (hg : g.1 = 0) {σ : zS} {x1 : Int} {x2 : Int} {x3 : Int} {x4 : Int} {rr : Int × zS} (h : f_X5_mark σ x1 x2 x3 x4 = some rr) : z_Met l yX5_mark cX5_mark 5 (some .int) rm_X5_mark g [.ref (z_ad (g) 62), .int (zi x1), .int (zi x2), .int (zi x3), .int (zi x4)] σ (z_QI g rr.1 rr.2) := by
  refine z_enter (own := RX5) (sd := 0) (lv0 := [(0, .ref (z_ad (g) 62)), (1, .int (zi x1)), (2, .int (zi x2)), (3, .int (zi x3)), (4, .int (zi x4))]) (by decide) rfl (Nat.le_of_ble_eq_true rfl) hg rfl (fun C hx hl hgC hR hn hq => ?_)
  subst hgC
  refine z_sub [0, 1, 2, 3, 4] rfl ?_
  exact w_X5_mark hx hn hR hq σ x1 x2 x3 x4 h
theorem dX5_unmark_0 : decode cX5_unmark 0 = .ok (.aload_n 0, 1) := by decide +kernel
theorem dX5_unmark_1 : decode cX5_unmark 1 = .ok (.getfield 20, 3) := by decide +kernel
theorem dX5_unmark_4 : decode cX5_unmark 4 = .ok (.iload_n 1, 1) := by decide +kernel
theorem dX5_unmark_5 : decode cX5_unmark 5 = .ok (.invokevirtual 85, 3) := by decide +kernel
theorem dX5_unmark_8 : decode cX5_unmark 8 = .ok (.ifCond .ne 5, 3) := by decide +kernel
theorem dX5_unmark_11 : decode cX5_unmark 11 = .ok (.iconst (-1), 1) := by decide +kernel
theorem dX5_unmark_12 : decode cX5_unmark 12 = .ok (.ireturn, 1) := by decide +kernel
theorem dX5_unmark_13 : decode cX5_unmark 13 = .ok (.aload_n 0, 1) := by decide +kernel
theorem dX5_unmark_14 : decode cX5_unmark 14 = .ok (.getfield 27, 3) := by decide +kernel
theorem dX5_unmark_17 : decode cX5_unmark 17 = .ok (.aload_n 0, 1) := by decide +kernel
theorem dX5_unmark_18 : decode cX5_unmark 18 = .ok (.getfield 20, 3) := by decide +kernel
theorem dX5_unmark_21 : decode cX5_unmark 21 = .ok (.invokevirtual 56, 3) := by decide +kernel
theorem dX5_unmark_24 : decode cX5_unmark 24 = .ok (.aload_n 0, 1) := by decide +kernel
theorem dX5_unmark_25 : decode cX5_unmark 25 = .ok (.getfield 20, 3) := by decide +kernel
theorem dX5_unmark_28 : decode cX5_unmark 28 = .ok (.iload_n 1, 1) := by decide +kernel
theorem dX5_unmark_29 : decode cX5_unmark 29 = .ok (.invokevirtual 89, 3) := by decide +kernel
theorem dX5_unmark_32 : decode cX5_unmark 32 = .ok (.aload_n 0, 1) := by decide +kernel
theorem dX5_unmark_33 : decode cX5_unmark 33 = .ok (.getfield 20, 3) := by decide +kernel
theorem dX5_unmark_36 : decode cX5_unmark 36 = .ok (.getfield 78, 3) := by decide +kernel
theorem dX5_unmark_39 : decode cX5_unmark 39 = .ok (.ireturn, 1) := by decide +kernel
abbrev rm_X5_unmark : Room := { frames := 4, cells := 0, slots := 0, locals := 124 }
theorem w_X5_unmark {C : zC} (hx : z_ok C cX5_unmark RX5 0) (hn : z_nL C = 2) (hR : z_R C = rm_X5_unmark) {rr : Int × zS} (hq : z_fin C (some .int) (z_QI (z_g C) rr.1 rr.2)) (σ : zS) (x1 : Int) (h : f_X5_unmark σ x1 = some rr) : z_W C σ 0 [(0, .ref (z_ad (z_g C) 62)), (1, .int (zi x1))] [] := by
  unfold f_X5_unmark at h
  refine z_aload_n hx 0 dX5_unmark_0 rfl ?_
  refine gf_X5_recording hx wf_X5_20 dX5_unmark_1 ?_
  refine z_iload_n hx 1 dX5_unmark_4 rfl ?_
  obtain ⟨r2, σ1, h5, h⟩ := z_bind_some h
  refine z_calli hx (As := [.int (zi x1)]) (k := 0) (met_X2_hasMark (z_l C) (z_g C) (z_ok_sd hx) (show 0 < 6 by decide) h5) (z_lt0 (z_ok_sd hx) (by decide)) (z_ka0 (z_ok_sd hx) (show 0 < 6 by decide) _) rfl rfl cv_X5_85 (z_room hR ⟨Nat.le_of_ble_eq_true rfl, Nat.le_of_ble_eq_true rfl⟩) ⟨rfl, rfl⟩ rfl rfl (Nat.le_of_ble_eq_true rfl) dX5_unmark_5 ?_
  refine z_if_ne hx (tgt := 13) dX5_unmark_8 (by decide) h (fun h => h) (fun hc h => ?_) (fun hc h => ?_)
  · refine z_aload_n hx 0 dX5_unmark_13 rfl ?_
    refine gf_X5_history hx wf_X5_27 dX5_unmark_14 ?_
    refine z_aload_n hx 0 dX5_unmark_17 rfl ?_
    refine gf_X5_recording hx wf_X5_20 dX5_unmark_18 ?_
    obtain ⟨⟨⟩, σ3, h21, h⟩ := z_bind_some h
    refine z_callv hx (As := [.ref (z_ad (z_g C) 0)]) (k := 60) (met_X1_keep (z_l C) (z_g C) (z_ok_sd hx) (show 0 < 6 by decide) h21) (z_lt0 (z_ok_sd hx) (by decide)) (z_kb60 (z_ok_sd hx) _) rfl rfl cv_X5_56 (z_room hR ⟨Nat.le_of_ble_eq_true rfl, Nat.le_of_ble_eq_true rfl⟩) ⟨rfl, rfl⟩ rfl rfl (Nat.le_of_ble_eq_true rfl) dX5_unmark_21 ?_
    refine z_aload_n hx 0 dX5_unmark_24 rfl ?_
    refine gf_X5_recording hx wf_X5_20 dX5_unmark_25 ?_
    refine z_iload_n hx 1 dX5_unmark_28 rfl ?_
    obtain ⟨⟨⟩, σ4, h29, h⟩ := z_bind_some h
    refine z_callv hx (As := [.int (zi x1)]) (k := 0) (met_X2_removeMark (z_l C) (z_g C) (z_ok_sd hx) (show 0 < 6 by decide) h29) (z_lt0 (z_ok_sd hx) (by decide)) (z_ka0 (z_ok_sd hx) (show 0 < 6 by decide) _) rfl rfl cv_X5_89 (z_room hR ⟨Nat.le_of_ble_eq_true rfl, Nat.le_of_ble_eq_true rfl⟩) ⟨rfl, rfl⟩ rfl rfl (Nat.le_of_ble_eq_true rfl) dX5_unmark_29 ?_
    refine z_aload_n hx 0 dX5_unmark_32 rfl ?_
    refine gf_X5_recording hx wf_X5_20 dX5_unmark_33 ?_
    refine gf_X2_marks hx wf_X5_78 (show 0 < 6 by decide) dX5_unmark_36 ?_
    cases h
    exact z_iret hx hq dX5_unmark_39
  · refine z_iconst hx (n := (-1)) dX5_unmark_11 ?_
    cases h
    exact z_iret hx hq dX5_unmark_12

theorem met_X5_unmark (l : Launch) (g : zG) (hg : g.1 = 0) {σ : zS} {x1 : Int} {rr : Int × zS} (h : f_X5_unmark σ x1 = some rr) : z_Met l yX5_unmark cX5_unmark 2 (some .int) rm_X5_unmark g [.ref (z_ad (g) 62), .int (zi x1)] σ (z_QI g rr.1 rr.2) := by
  refine z_enter (own := RX5) (sd := 0) (lv0 := [(0, .ref (z_ad (g) 62)), (1, .int (zi x1))]) (by decide) rfl (Nat.le_of_ble_eq_true rfl) hg rfl (fun C hx hl hgC hR hn hq => ?_)
  subst hgC
  refine z_sub [0, 1] rfl ?_
  exact w_X5_unmark hx hn hR hq σ x1 h
theorem dX5_hold_0 : decode cX5_hold 0 = .ok (.aload_n 0, 1) := by decide +kernel
theorem dX5_hold_1 : decode cX5_hold 1 = .ok (.getfield 20, 3) := by decide +kernel
theorem dX5_hold_4 : decode cX5_hold 4 = .ok (.iload_n 1, 1) := by decide +kernel
theorem dX5_hold_5 : decode cX5_hold 5 = .ok (.invokevirtual 85, 3) := by decide +kernel
theorem dX5_hold_8 : decode cX5_hold 8 = .ok (.ifCond .ne 5, 3) := by decide +kernel
theorem dX5_hold_11 : decode cX5_hold 11 = .ok (.iconst (-1), 1) := by decide +kernel
theorem dX5_hold_12 : decode cX5_hold 12 = .ok (.ireturn, 1) := by decide +kernel
theorem dX5_hold_13 : decode cX5_hold 13 = .ok (.aload_n 0, 1) := by decide +kernel
theorem dX5_hold_14 : decode cX5_hold 14 = .ok (.getfield 27, 3) := by decide +kernel
theorem dX5_hold_17 : decode cX5_hold 17 = .ok (.aload_n 0, 1) := by decide +kernel
theorem dX5_hold_18 : decode cX5_hold 18 = .ok (.getfield 20, 3) := by decide +kernel
theorem dX5_hold_21 : decode cX5_hold 21 = .ok (.invokevirtual 56, 3) := by decide +kernel
theorem dX5_hold_24 : decode cX5_hold 24 = .ok (.aload_n 0, 1) := by decide +kernel
theorem dX5_hold_25 : decode cX5_hold 25 = .ok (.getfield 20, 3) := by decide +kernel
theorem dX5_hold_28 : decode cX5_hold 28 = .ok (.getfield 92, 3) := by decide +kernel
theorem dX5_hold_31 : decode cX5_hold 31 = .ok (.iload_n 1, 1) := by decide +kernel
theorem dX5_hold_32 : decode cX5_hold 32 = .ok (.baload, 1) := by decide +kernel
theorem dX5_hold_33 : decode cX5_hold 33 = .ok (.ifCond .eq 7, 3) := by decide +kernel
theorem dX5_hold_36 : decode cX5_hold 36 = .ok (.iconst 1, 1) := by decide +kernel
theorem dX5_hold_37 : decode cX5_hold 37 = .ok (.goto 4, 3) := by decide +kernel
theorem dX5_hold_40 : decode cX5_hold 40 = .ok (.iconst 0, 1) := by decide +kernel
theorem dX5_hold_41 : decode cX5_hold 41 = .ok (.istore_n 3, 1) := by decide +kernel
theorem dX5_hold_42 : decode cX5_hold 42 = .ok (.aload_n 0, 1) := by decide +kernel
theorem dX5_hold_43 : decode cX5_hold 43 = .ok (.getfield 20, 3) := by decide +kernel
theorem dX5_hold_46 : decode cX5_hold 46 = .ok (.getfield 92, 3) := by decide +kernel
theorem dX5_hold_49 : decode cX5_hold 49 = .ok (.iload_n 1, 1) := by decide +kernel
theorem dX5_hold_50 : decode cX5_hold 50 = .ok (.iload_n 2, 1) := by decide +kernel
theorem dX5_hold_51 : decode cX5_hold 51 = .ok (.bastore, 1) := by decide +kernel
theorem dX5_hold_52 : decode cX5_hold 52 = .ok (.iload_n 3, 1) := by decide +kernel
theorem dX5_hold_53 : decode cX5_hold 53 = .ok (.ireturn, 1) := by decide +kernel
abbrev rm_X5_hold : Room := { frames := 4, cells := 0, slots := 0, locals := 124 }
theorem w_X5_hold_b41 {C : zC} (hx : z_ok C cX5_hold RX5 0) (hn : z_nL C = 4) (hR : z_R C = rm_X5_hold) {rr : Int × zS} (hq : z_fin C (some .int) (z_QI (z_g C) rr.1 rr.2)) (σ : zS) (x1 : Int) (x2 : Int) (s0 : Int) (h : f_X5_hold_b41 σ x1 x2 s0 = some rr) : z_W C σ 41 [(0, .ref (z_ad (z_g C) 62)), (1, .int (zi x1)), (2, .int (zi x2))] [.int (zi s0)] := by
  unfold f_X5_hold_b41 at h
  refine z_istore_n hx hn (lv' := [(3, .int (zi s0)), (0, .ref (z_ad (z_g C) 62)), (1, .int (zi x1)), (2, .int (zi x2))]) dX5_hold_41 (by decide) rfl ?_
  refine z_aload_n hx 1 dX5_hold_42 rfl ?_
  refine gf_X5_recording hx wf_X5_20 dX5_hold_43 ?_
  refine gf_X2_held hx wf_X5_92 (show 0 < 6 by decide) dX5_hold_46 ?_
  refine z_iload_n hx 2 dX5_hold_49 rfl ?_
  refine z_iload_n hx 3 dX5_hold_50 rfl ?_
  refine z_zast hx (n := 20) (z_lt0 (z_ok_sd hx) (by decide)) (z_ka6 (z_ok_sd hx) (show 0 < 6 by decide)) rfl (by decide) dX5_hold_51 h (fun σ1 h => ?_)
  refine z_iload_n hx 0 dX5_hold_52 rfl ?_
  cases h
  exact z_iret hx hq dX5_hold_53

theorem w_X5_hold {C : zC} (hx : z_ok C cX5_hold RX5 0) (hn : z_nL C = 4) (hR : z_R C = rm_X5_hold) {rr : Int × zS} (hq : z_fin C (some .int) (z_QI (z_g C) rr.1 rr.2)) (σ : zS) (x1 : Int) (x2 : Int) (h : f_X5_hold σ x1 x2 = some rr) : z_W C σ 0 [(0, .ref (z_ad (z_g C) 62)), (1, .int (zi x1)), (2, .int (zi x2))] [] := by
  unfold f_X5_hold at h
  refine z_aload_n hx 0 dX5_hold_0 rfl ?_
  refine gf_X5_recording hx wf_X5_20 dX5_hold_1 ?_
  refine z_iload_n hx 1 dX5_hold_4 rfl ?_
  obtain ⟨r2, σ1, h5, h⟩ := z_bind_some h
  refine z_calli hx (As := [.int (zi x1)]) (k := 0) (met_X2_hasMark (z_l C) (z_g C) (z_ok_sd hx) (show 0 < 6 by decide) h5) (z_lt0 (z_ok_sd hx) (by decide)) (z_ka0 (z_ok_sd hx) (show 0 < 6 by decide) _) rfl rfl cv_X5_85 (z_room hR ⟨Nat.le_of_ble_eq_true rfl, Nat.le_of_ble_eq_true rfl⟩) ⟨rfl, rfl⟩ rfl rfl (Nat.le_of_ble_eq_true rfl) dX5_hold_5 ?_
  refine z_if_ne hx (tgt := 13) dX5_hold_8 (by decide) h (fun h => h) (fun hc h => ?_) (fun hc h => ?_)
  · refine z_aload_n hx 0 dX5_hold_13 rfl ?_
    refine gf_X5_history hx wf_X5_27 dX5_hold_14 ?_
    refine z_aload_n hx 0 dX5_hold_17 rfl ?_
    refine gf_X5_recording hx wf_X5_20 dX5_hold_18 ?_
    obtain ⟨⟨⟩, σ3, h21, h⟩ := z_bind_some h
    refine z_callv hx (As := [.ref (z_ad (z_g C) 0)]) (k := 60) (met_X1_keep (z_l C) (z_g C) (z_ok_sd hx) (show 0 < 6 by decide) h21) (z_lt0 (z_ok_sd hx) (by decide)) (z_kb60 (z_ok_sd hx) _) rfl rfl cv_X5_56 (z_room hR ⟨Nat.le_of_ble_eq_true rfl, Nat.le_of_ble_eq_true rfl⟩) ⟨rfl, rfl⟩ rfl rfl (Nat.le_of_ble_eq_true rfl) dX5_hold_21 ?_
    refine z_aload_n hx 0 dX5_hold_24 rfl ?_
    refine gf_X5_recording hx wf_X5_20 dX5_hold_25 ?_
    refine gf_X2_held hx wf_X5_92 (show 0 < 6 by decide) dX5_hold_28 ?_
    refine z_iload_n hx 1 dX5_hold_31 rfl ?_
    refine z_zald hx (n := 20) (z_lt0 (z_ok_sd hx) (by decide)) (z_ka6 (z_ok_sd hx) (show 0 < 6 by decide) _) rfl (by decide) dX5_hold_32 h (fun h => ?_)
    refine z_if_eq hx (tgt := 40) dX5_hold_33 (by decide) h (fun h => h) (fun hc h => ?_) (fun hc h => ?_)
    · refine z_iconst hx (n := 0) dX5_hold_40 ?_
      refine z_sub [0, 1, 2] rfl ?_
      exact w_X5_hold_b41 hx hn hR hq σ3 x1 x2 0 h
    · refine z_iconst hx (n := 1) dX5_hold_36 ?_
      refine z_goto hx (tgt := 41) dX5_hold_37 (by decide) ?_
      refine z_sub [0, 1, 2] rfl ?_
      exact w_X5_hold_b41 hx hn hR hq σ3 x1 x2 1 h
  · refine z_iconst hx (n := (-1)) dX5_hold_11 ?_
    cases h
    exact z_iret hx hq dX5_hold_12

theorem met_X5_hold (l : Launch) (g : zG) (hg : g.1 = 0) {σ : zS} {x1 : Int} {x2 : Int} {rr : Int × zS} (h : f_X5_hold σ x1 x2 = some rr) : z_Met l yX5_hold cX5_hold 4 (some .int) rm_X5_hold g [.ref (z_ad (g) 62), .int (zi x1), .int (zi x2)] σ (z_QI g rr.1 rr.2) := by
  refine z_enter (own := RX5) (sd := 0) (lv0 := [(0, .ref (z_ad (g) 62)), (1, .int (zi x1)), (2, .int (zi x2))]) (by decide) rfl (Nat.le_of_ble_eq_true rfl) hg rfl (fun C hx hl hgC hR hn hq => ?_)
  subst hgC
  refine z_sub [0, 1, 2] rfl ?_
  exact w_X5_hold hx hn hR hq σ x1 x2 h
theorem dX5_setting_0 : decode cX5_setting 0 = .ok (.iload_n 1, 1) := by decide +kernel
theorem dX5_setting_1 : decode cX5_setting 1 = .ok (.ifCond .lt 9, 3) := by decide +kernel
theorem dX5_setting_4 : decode cX5_setting 4 = .ok (.iload_n 1, 1) := by decide +kernel
theorem dX5_setting_5 : decode cX5_setting 5 = .ok (.bipush 8, 2) := by decide +kernel
theorem dX5_setting_7 : decode cX5_setting 7 = .ok (.if_icmp .le 5, 3) := by decide +kernel
theorem dX5_setting_10 : decode cX5_setting 10 = .ok (.iconst (-1), 1) := by decide +kernel
theorem dX5_setting_11 : decode cX5_setting 11 = .ok (.ireturn, 1) := by decide +kernel
theorem dX5_setting_12 : decode cX5_setting 12 = .ok (.iload_n 1, 1) := by decide +kernel
theorem dX5_setting_13 : decode cX5_setting 13 = .ok (.bipush 7, 2) := by decide +kernel
theorem dX5_setting_15 : decode cX5_setting 15 = .ok (.if_icmp .ge 13, 3) := by decide +kernel
theorem dX5_setting_18 : decode cX5_setting 18 = .ok (.aload_n 0, 1) := by decide +kernel
theorem dX5_setting_19 : decode cX5_setting 19 = .ok (.getfield 20, 3) := by decide +kernel
theorem dX5_setting_22 : decode cX5_setting 22 = .ok (.getfield 99, 3) := by decide +kernel
theorem dX5_setting_25 : decode cX5_setting 25 = .ok (.iload_n 1, 1) := by decide +kernel
theorem dX5_setting_26 : decode cX5_setting 26 = .ok (.iaload, 1) := by decide +kernel
theorem dX5_setting_27 : decode cX5_setting 27 = .ok (.ireturn, 1) := by decide +kernel
theorem dX5_setting_28 : decode cX5_setting 28 = .ok (.iload_n 1, 1) := by decide +kernel
theorem dX5_setting_29 : decode cX5_setting 29 = .ok (.bipush 7, 2) := by decide +kernel
theorem dX5_setting_31 : decode cX5_setting 31 = .ok (.if_icmp .ne 13, 3) := by decide +kernel
theorem dX5_setting_34 : decode cX5_setting 34 = .ok (.aload_n 0, 1) := by decide +kernel
theorem dX5_setting_35 : decode cX5_setting 35 = .ok (.getfield 20, 3) := by decide +kernel
theorem dX5_setting_38 : decode cX5_setting 38 = .ok (.getfield 66, 3) := by decide +kernel
theorem dX5_setting_41 : decode cX5_setting 41 = .ok (.goto 10, 3) := by decide +kernel
theorem dX5_setting_44 : decode cX5_setting 44 = .ok (.aload_n 0, 1) := by decide +kernel
theorem dX5_setting_45 : decode cX5_setting 45 = .ok (.getfield 20, 3) := by decide +kernel
theorem dX5_setting_48 : decode cX5_setting 48 = .ok (.getfield 78, 3) := by decide +kernel
theorem dX5_setting_51 : decode cX5_setting 51 = .ok (.ireturn, 1) := by decide +kernel
abbrev rm_X5_setting : Room := { frames := 0, cells := 0, slots := 0, locals := 0 }
theorem w_X5_setting_b51 {C : zC} (hx : z_ok C cX5_setting RX5 0) (hn : z_nL C = 2) (hR : z_R C = rm_X5_setting) {rr : Int × zS} (hq : z_fin C (some .int) (z_QI (z_g C) rr.1 rr.2)) (σ : zS) (s0 : Int) (h : f_X5_setting_b51 σ s0 = some rr) : z_W C σ 51 [] [.int (zi s0)] := by
  unfold f_X5_setting_b51 at h
  cases h
  exact z_iret hx hq dX5_setting_51

theorem w_X5_setting_b10 {C : zC} (hx : z_ok C cX5_setting RX5 0) (hn : z_nL C = 2) (hR : z_R C = rm_X5_setting) {rr : Int × zS} (hq : z_fin C (some .int) (z_QI (z_g C) rr.1 rr.2)) (σ : zS) (h : f_X5_setting_b10 σ = some rr) : z_W C σ 10 [] [] := by
  unfold f_X5_setting_b10 at h
  refine z_iconst hx (n := (-1)) dX5_setting_10 ?_
  cases h
  exact z_iret hx hq dX5_setting_11

theorem w_X5_setting {C : zC} (hx : z_ok C cX5_setting RX5 0) (hn : z_nL C = 2) (hR : z_R C = rm_X5_setting) {rr : Int × zS} (hq : z_fin C (some .int) (z_QI (z_g C) rr.1 rr.2)) (σ : zS) (x1 : Int) (h : f_X5_setting σ x1 = some rr) : z_W C σ 0 [(0, .ref (z_ad (z_g C) 62)), (1, .int (zi x1))] [] := by
  unfold f_X5_setting at h
  refine z_iload_n hx 1 dX5_setting_0 rfl ?_
  refine z_if_lt hx (tgt := 10) dX5_setting_1 (by decide) h (fun h => h) (fun hc h => ?_) (fun hc h => ?_)
  · refine z_sub [] rfl ?_
    exact w_X5_setting_b10 hx hn hR hq σ h
  · refine z_iload_n hx 1 dX5_setting_4 rfl ?_
    refine z_bipush hx (n := 8) dX5_setting_5 rfl ?_
    refine z_icmp_le hx (tgt := 12) dX5_setting_7 (by decide) h (fun h => ⟨h, by decide⟩) (fun hc h => ?_) (fun hc h => ?_)
    · refine z_iload_n hx 1 dX5_setting_12 rfl ?_
      refine z_bipush hx (n := 7) dX5_setting_13 rfl ?_
      refine z_icmp_ge hx (tgt := 28) dX5_setting_15 (by decide) h (fun h => ⟨h, by decide⟩) (fun hc h => ?_) (fun hc h => ?_)
      · refine z_iload_n hx 1 dX5_setting_28 rfl ?_
        refine z_bipush hx (n := 7) dX5_setting_29 rfl ?_
        refine z_icmp_ne hx (tgt := 44) dX5_setting_31 (by decide) h (fun h => ⟨h, by decide⟩) (fun hc h => ?_) (fun hc h => ?_)
        · refine z_aload_n hx 0 dX5_setting_44 rfl ?_
          refine gf_X5_recording hx wf_X5_20 dX5_setting_45 ?_
          refine gf_X2_marks hx wf_X5_78 (show 0 < 6 by decide) dX5_setting_48 ?_
          refine z_sub [] rfl ?_
          exact w_X5_setting_b51 hx hn hR hq σ (σ 0 7) h
        · refine z_aload_n hx 0 dX5_setting_34 rfl ?_
          refine gf_X5_recording hx wf_X5_20 dX5_setting_35 ?_
          refine gf_X2_frames hx wf_X5_66 (show 0 < 6 by decide) dX5_setting_38 ?_
          refine z_goto hx (tgt := 51) dX5_setting_41 (by decide) ?_
          refine z_sub [] rfl ?_
          exact w_X5_setting_b51 hx hn hR hq σ (σ 0 1) h
      · refine z_aload_n hx 0 dX5_setting_18 rfl ?_
        refine gf_X5_recording hx wf_X5_20 dX5_setting_19 ?_
        refine gf_X2_settings hx wf_X5_99 (show 0 < 6 by decide) dX5_setting_22 ?_
        refine z_iload_n hx 1 dX5_setting_25 rfl ?_
        refine z_iald hx (n := 7) (z_lt0 (z_ok_sd hx) (by decide)) (z_ka7 (z_ok_sd hx) (show 0 < 6 by decide) _) rfl (by decide) dX5_setting_26 h (fun h => ?_)
        cases h
        exact z_iret hx hq dX5_setting_27
    · refine z_sub [] rfl ?_
      exact w_X5_setting_b10 hx hn hR hq σ h

theorem met_X5_setting (l : Launch) (g : zG) (hg : g.1 = 0) {σ : zS} {x1 : Int} {rr : Int × zS} (h : f_X5_setting σ x1 = some rr) : z_Met l yX5_setting cX5_setting 2 (some .int) rm_X5_setting g [.ref (z_ad (g) 62), .int (zi x1)] σ (z_QI g rr.1 rr.2) := by
  refine z_enter (own := RX5) (sd := 0) (lv0 := [(0, .ref (z_ad (g) 62)), (1, .int (zi x1))]) (by decide) rfl (Nat.le_of_ble_eq_true rfl) hg rfl (fun C hx hl hgC hR hn hq => ?_)
  subst hgC
  refine z_sub [0, 1] rfl ?_
  exact w_X5_setting hx hn hR hq σ x1 h
theorem dX5_currentCuts_0 : decode cX5_currentCuts 0 = .ok (.aload_n 0, 1) := by decide +kernel
theorem dX5_currentCuts_1 : decode cX5_currentCuts 1 = .ok (.getfield 41, 3) := by decide +kernel
theorem dX5_currentCuts_4 : decode cX5_currentCuts 4 = .ok (.aload_n 0, 1) := by decide +kernel
theorem dX5_currentCuts_5 : decode cX5_currentCuts 5 = .ok (.getfield 20, 3) := by decide +kernel
theorem dX5_currentCuts_8 : decode cX5_currentCuts 8 = .ok (.aload_n 0, 1) := by decide +kernel
theorem dX5_currentCuts_9 : decode cX5_currentCuts 9 = .ok (.getfield 20, 3) := by decide +kernel
theorem dX5_currentCuts_12 : decode cX5_currentCuts 12 = .ok (.getfield 99, 3) := by decide +kernel
theorem dX5_currentCuts_15 : decode cX5_currentCuts 15 = .ok (.iconst 0, 1) := by decide +kernel
theorem dX5_currentCuts_16 : decode cX5_currentCuts 16 = .ok (.iaload, 1) := by decide +kernel
theorem dX5_currentCuts_17 : decode cX5_currentCuts 17 = .ok (.aload_n 0, 1) := by decide +kernel
theorem dX5_currentCuts_18 : decode cX5_currentCuts 18 = .ok (.getfield 20, 3) := by decide +kernel
theorem dX5_currentCuts_21 : decode cX5_currentCuts 21 = .ok (.getfield 99, 3) := by decide +kernel
theorem dX5_currentCuts_24 : decode cX5_currentCuts 24 = .ok (.iconst 2, 1) := by decide +kernel
theorem dX5_currentCuts_25 : decode cX5_currentCuts 25 = .ok (.iaload, 1) := by decide +kernel
theorem dX5_currentCuts_26 : decode cX5_currentCuts 26 = .ok (.invokevirtual 136, 3) := by decide +kernel
theorem dX5_currentCuts_29 : decode cX5_currentCuts 29 = .ok (.aload_n 0, 1) := by decide +kernel
theorem dX5_currentCuts_30 : decode cX5_currentCuts 30 = .ok (.getfield 41, 3) := by decide +kernel
theorem dX5_currentCuts_33 : decode cX5_currentCuts 33 = .ok (.areturn, 1) := by decide +kernel
abbrev rm_X5_currentCuts : Room := { frames := 5, cells := 0, slots := 0, locals := 126 }
theorem w_X5_currentCuts {C : zC} (hx : z_ok C cX5_currentCuts RX5 0) (hn : z_nL C = 1) (hR : z_R C = rm_X5_currentCuts) {rr : Unit × zS} (hq : z_fin C (some (.object "SpeechCleaner$CutList")) (z_QR (z_g C) 48 rr.2)) (σ : zS) (h : f_X5_currentCuts σ = some rr) : z_W C σ 0 [(0, .ref (z_ad (z_g C) 62))] [] := by
  unfold f_X5_currentCuts at h
  refine z_aload_n hx 0 dX5_currentCuts_0 rfl ?_
  refine gf_X5_cutList hx wf_X5_41 dX5_currentCuts_1 ?_
  refine z_aload_n hx 0 dX5_currentCuts_4 rfl ?_
  refine gf_X5_recording hx wf_X5_20 dX5_currentCuts_5 ?_
  refine z_aload_n hx 0 dX5_currentCuts_8 rfl ?_
  refine gf_X5_recording hx wf_X5_20 dX5_currentCuts_9 ?_
  refine gf_X2_settings hx wf_X5_99 (show 0 < 6 by decide) dX5_currentCuts_12 ?_
  refine z_iconst hx (n := 0) dX5_currentCuts_15 ?_
  refine z_iald hx (n := 7) (z_lt0 (z_ok_sd hx) (by decide)) (z_ka7 (z_ok_sd hx) (show 0 < 6 by decide) _) rfl (by decide) dX5_currentCuts_16 h (fun h => ?_)
  refine z_aload_n hx 0 dX5_currentCuts_17 rfl ?_
  refine gf_X5_recording hx wf_X5_20 dX5_currentCuts_18 ?_
  refine gf_X2_settings hx wf_X5_99 (show 0 < 6 by decide) dX5_currentCuts_21 ?_
  refine z_iconst hx (n := 2) dX5_currentCuts_24 ?_
  refine z_iald hx (n := 7) (z_lt0 (z_ok_sd hx) (by decide)) (z_ka7 (z_ok_sd hx) (show 0 < 6 by decide) _) rfl (by decide) dX5_currentCuts_25 h (fun h => ?_)
  obtain ⟨⟨⟩, σ1, h26, h⟩ := z_bind_some h
  refine z_callv hx (As := [.ref (z_ad (z_g C) 0), .int (zi (σ 7 0)), .int (zi (σ 7 2))]) (k := 48) (met_X0_find (z_l C) (z_g C) (z_ok_sd hx) h26) (z_lt0 (z_ok_sd hx) (by decide)) (z_kb48 (z_ok_sd hx) _) rfl rfl cv_X5_136 (z_room hR ⟨Nat.le_of_ble_eq_true rfl, Nat.le_of_ble_eq_true rfl⟩) ⟨rfl, rfl⟩ rfl rfl (Nat.le_of_ble_eq_true rfl) dX5_currentCuts_26 ?_
  refine z_aload_n hx 0 dX5_currentCuts_29 rfl ?_
  refine gf_X5_cutList hx wf_X5_41 dX5_currentCuts_30 ?_
  cases h
  exact z_aret hx hq dX5_currentCuts_33

theorem met_X5_currentCuts (l : Launch) (g : zG) (hg : g.1 = 0) {σ : zS} {rr : Unit × zS} (h : f_X5_currentCuts σ = some rr) : z_Met l yX5_currentCuts cX5_currentCuts 1 (some (.object "SpeechCleaner$CutList")) rm_X5_currentCuts g [.ref (z_ad (g) 62)] σ (z_QR g 48 rr.2) := by
  refine z_enter (own := RX5) (sd := 0) (lv0 := [(0, .ref (z_ad (g) 62))]) (by decide) rfl (Nat.le_of_ble_eq_true rfl) hg rfl (fun C hx hl hgC hR hn hq => ?_)
  subst hgC
  refine z_sub [0] rfl ?_
  exact w_X5_currentCuts hx hn hR hq σ h
theorem dX5_about_0 : decode cX5_about 0 = .ok (.aload_n 0, 1) := by decide +kernel
theorem dX5_about_1 : decode cX5_about 1 = .ok (.getfield 20, 3) := by decide +kernel
theorem dX5_about_4 : decode cX5_about 4 = .ok (.iload_n 1, 1) := by decide +kernel
theorem dX5_about_5 : decode cX5_about 5 = .ok (.invokevirtual 85, 3) := by decide +kernel
theorem dX5_about_8 : decode cX5_about 8 = .ok (.ifCond .eq 12, 3) := by decide +kernel
theorem dX5_about_11 : decode cX5_about 11 = .ok (.iload_n 2, 1) := by decide +kernel
theorem dX5_about_12 : decode cX5_about 12 = .ok (.ifCond .lt 8, 3) := by decide +kernel
theorem dX5_about_15 : decode cX5_about 15 = .ok (.iload_n 2, 1) := by decide +kernel
theorem dX5_about_16 : decode cX5_about 16 = .ok (.iconst 5, 1) := by decide +kernel
theorem dX5_about_17 : decode cX5_about 17 = .ok (.if_icmp .le 5, 3) := by decide +kernel
theorem dX5_about_20 : decode cX5_about 20 = .ok (.iconst (-1), 1) := by decide +kernel
theorem dX5_about_21 : decode cX5_about 21 = .ok (.ireturn, 1) := by decide +kernel
theorem dX5_about_22 : decode cX5_about 22 = .ok (.iload_n 2, 1) := by decide +kernel
theorem dX5_about_23 : decode cX5_about 23 = .ok (.iconst 5, 1) := by decide +kernel
theorem dX5_about_24 : decode cX5_about 24 = .ok (.if_icmp .ne 12, 3) := by decide +kernel
theorem dX5_about_27 : decode cX5_about 27 = .ok (.aload_n 0, 1) := by decide +kernel
theorem dX5_about_28 : decode cX5_about 28 = .ok (.invokevirtual 102, 3) := by decide +kernel
theorem dX5_about_31 : decode cX5_about 31 = .ok (.iload_n 1, 1) := by decide +kernel
theorem dX5_about_32 : decode cX5_about 32 = .ok (.invokevirtual 106, 3) := by decide +kernel
theorem dX5_about_35 : decode cX5_about 35 = .ok (.ireturn, 1) := by decide +kernel
theorem dX5_about_36 : decode cX5_about 36 = .ok (.aload_n 0, 1) := by decide +kernel
theorem dX5_about_37 : decode cX5_about 37 = .ok (.getfield 20, 3) := by decide +kernel
theorem dX5_about_40 : decode cX5_about 40 = .ok (.iload_n 1, 1) := by decide +kernel
theorem dX5_about_41 : decode cX5_about 41 = .ok (.iload_n 2, 1) := by decide +kernel
theorem dX5_about_42 : decode cX5_about 42 = .ok (.invokevirtual 110, 3) := by decide +kernel
theorem dX5_about_45 : decode cX5_about 45 = .ok (.ireturn, 1) := by decide +kernel
abbrev rm_X5_about : Room := { frames := 6, cells := 0, slots := 0, locals := 146 }
theorem w_X5_about_b20 {C : zC} (hx : z_ok C cX5_about RX5 0) (hn : z_nL C = 3) (hR : z_R C = rm_X5_about) {rr : Int × zS} (hq : z_fin C (some .int) (z_QI (z_g C) rr.1 rr.2)) (σ : zS) (h : f_X5_about_b20 σ = some rr) : z_W C σ 20 [] [] := by
  unfold f_X5_about_b20 at h
  refine z_iconst hx (n := (-1)) dX5_about_20 ?_
  cases h
  exact z_iret hx hq dX5_about_21

theorem w_X5_about {C : zC} (hx : z_ok C cX5_about RX5 0) (hn : z_nL C = 3) (hR : z_R C = rm_X5_about) {rr : Int × zS} (hq : z_fin C (some .int) (z_QI (z_g C) rr.1 rr.2)) (σ : zS) (x1 : Int) (x2 : Int) (h : f_X5_about σ x1 x2 = some rr) : z_W C σ 0 [(0, .ref (z_ad (z_g C) 62)), (1, .int (zi x1)), (2, .int (zi x2))] [] := by
  unfold f_X5_about at h
  refine z_aload_n hx 0 dX5_about_0 rfl ?_
  refine gf_X5_recording hx wf_X5_20 dX5_about_1 ?_
  refine z_iload_n hx 1 dX5_about_4 rfl ?_
  obtain ⟨r2, σ1, h5, h⟩ := z_bind_some h
  refine z_calli hx (As := [.int (zi x1)]) (k := 0) (met_X2_hasMark (z_l C) (z_g C) (z_ok_sd hx) (show 0 < 6 by decide) h5) (z_lt0 (z_ok_sd hx) (by decide)) (z_ka0 (z_ok_sd hx) (show 0 < 6 by decide) _) rfl rfl cv_X5_85 (z_room hR ⟨Nat.le_of_ble_eq_true rfl, Nat.le_of_ble_eq_true rfl⟩) ⟨rfl, rfl⟩ rfl rfl (Nat.le_of_ble_eq_true rfl) dX5_about_5 ?_
  refine z_if_eq hx (tgt := 20) dX5_about_8 (by decide) h (fun h => h) (fun hc h => ?_) (fun hc h => ?_)
  · refine z_sub [] rfl ?_
    exact w_X5_about_b20 hx hn hR hq σ1 h
  · refine z_iload_n hx 2 dX5_about_11 rfl ?_
    refine z_if_lt hx (tgt := 20) dX5_about_12 (by decide) h (fun h => h) (fun hc h => ?_) (fun hc h => ?_)
    · refine z_sub [] rfl ?_
      exact w_X5_about_b20 hx hn hR hq σ1 h
    · refine z_iload_n hx 2 dX5_about_15 rfl ?_
      refine z_iconst hx (n := 5) dX5_about_16 ?_
      refine z_icmp_le hx (tgt := 22) dX5_about_17 (by decide) h (fun h => ⟨h, by decide⟩) (fun hc h => ?_) (fun hc h => ?_)
      · refine z_iload_n hx 2 dX5_about_22 rfl ?_
        refine z_iconst hx (n := 5) dX5_about_23 ?_
        refine z_icmp_ne hx (tgt := 36) dX5_about_24 (by decide) h (fun h => ⟨h, by decide⟩) (fun hc h => ?_) (fun hc h => ?_)
        · refine z_aload_n hx 0 dX5_about_36 rfl ?_
          refine gf_X5_recording hx wf_X5_20 dX5_about_37 ?_
          refine z_iload_n hx 1 dX5_about_40 rfl ?_
          refine z_iload_n hx 2 dX5_about_41 rfl ?_
          obtain ⟨r4, σ3, h42, h⟩ := z_bind_some h
          refine z_calli hx (As := [.int (zi x1), .int (zi x2)]) (k := 0) (met_X2_numberOfMark (z_l C) (z_g C) (z_ok_sd hx) (show 0 < 6 by decide) h42) (z_lt0 (z_ok_sd hx) (by decide)) (z_ka0 (z_ok_sd hx) (show 0 < 6 by decide) _) rfl rfl cv_X5_110 (z_room hR ⟨Nat.le_of_ble_eq_true rfl, Nat.le_of_ble_eq_true rfl⟩) ⟨rfl, rfl⟩ rfl rfl (Nat.le_of_ble_eq_true rfl) dX5_about_42 ?_
          cases h
          exact z_iret hx hq dX5_about_45
        · refine z_aload_n hx 0 dX5_about_27 rfl ?_
          obtain ⟨⟨⟩, σ5, h28, h⟩ := z_bind_some h
          refine z_callr hx (As := []) (k := 62) (met_X5_currentCuts (z_l C) (z_g C) (z_ok_sd hx) h28) (z_lt0 (z_ok_sd hx) (by decide)) (z_kb62 (z_ok_sd hx) _) rfl rfl cv_X5_102 (z_room hR ⟨Nat.le_of_ble_eq_true rfl, Nat.le_of_ble_eq_true rfl⟩) ⟨rfl, rfl⟩ rfl rfl (Nat.le_of_ble_eq_true rfl) dX5_about_28 ?_
          refine z_iload_n hx 1 dX5_about_31 rfl ?_
          obtain ⟨r7, σ6, h32, h⟩ := z_bind_some h
          refine z_calli hx (As := [.int (zi x1)]) (k := 48) (met_X0_cutOfMark (z_l C) (z_g C) (z_ok_sd hx) h32) (z_lt0 (z_ok_sd hx) (by decide)) (z_kb48 (z_ok_sd hx) _) rfl rfl cv_X5_106 (z_room hR ⟨Nat.le_of_ble_eq_true rfl, Nat.le_of_ble_eq_true rfl⟩) ⟨rfl, rfl⟩ rfl rfl (Nat.le_of_ble_eq_true rfl) dX5_about_32 ?_
          cases h
          exact z_iret hx hq dX5_about_35
      · refine z_sub [] rfl ?_
        exact w_X5_about_b20 hx hn hR hq σ1 h

theorem met_X5_about (l : Launch) (g : zG) (hg : g.1 = 0) {σ : zS} {x1 : Int} {x2 : Int} {rr : Int × zS} (h : f_X5_about σ x1 x2 = some rr) : z_Met l yX5_about cX5_about 3 (some .int) rm_X5_about g [.ref (z_ad (g) 62), .int (zi x1), .int (zi x2)] σ (z_QI g rr.1 rr.2) := by
  refine z_enter (own := RX5) (sd := 0) (lv0 := [(0, .ref (z_ad (g) 62)), (1, .int (zi x1)), (2, .int (zi x2))]) (by decide) rfl (Nat.le_of_ble_eq_true rfl) hg rfl (fun C hx hl hgC hR hn hq => ?_)
  subst hgC
  refine z_sub [0, 1, 2] rfl ?_
  exact w_X5_about hx hn hR hq σ x1 x2 h
theorem dX5_level_0 : decode cX5_level 0 = .ok (.aload_n 0, 1) := by decide +kernel
theorem dX5_level_1 : decode cX5_level 1 = .ok (.getfield 20, 3) := by decide +kernel
theorem dX5_level_4 : decode cX5_level 4 = .ok (.iload_n 1, 1) := by decide +kernel
theorem dX5_level_5 : decode cX5_level 5 = .ok (.invokevirtual 114, 3) := by decide +kernel
theorem dX5_level_8 : decode cX5_level 8 = .ok (.ifCond .ne 5, 3) := by decide +kernel
theorem dX5_level_11 : decode cX5_level 11 = .ok (.iconst (-1), 1) := by decide +kernel
theorem dX5_level_12 : decode cX5_level 12 = .ok (.ireturn, 1) := by decide +kernel
theorem dX5_level_13 : decode cX5_level 13 = .ok (.aload_n 0, 1) := by decide +kernel
theorem dX5_level_14 : decode cX5_level 14 = .ok (.getfield 20, 3) := by decide +kernel
theorem dX5_level_17 : decode cX5_level 17 = .ok (.iload_n 1, 1) := by decide +kernel
theorem dX5_level_18 : decode cX5_level 18 = .ok (.invokevirtual 117, 3) := by decide +kernel
theorem dX5_level_21 : decode cX5_level 21 = .ok (.ireturn, 1) := by decide +kernel
abbrev rm_X5_level : Room := { frames := 1, cells := 0, slots := 0, locals := 21 }
theorem w_X5_level {C : zC} (hx : z_ok C cX5_level RX5 0) (hn : z_nL C = 2) (hR : z_R C = rm_X5_level) {rr : Int × zS} (hq : z_fin C (some .int) (z_QI (z_g C) rr.1 rr.2)) (σ : zS) (x1 : Int) (h : f_X5_level σ x1 = some rr) : z_W C σ 0 [(0, .ref (z_ad (z_g C) 62)), (1, .int (zi x1))] [] := by
  unfold f_X5_level at h
  refine z_aload_n hx 0 dX5_level_0 rfl ?_
  refine gf_X5_recording hx wf_X5_20 dX5_level_1 ?_
  refine z_iload_n hx 1 dX5_level_4 rfl ?_
  obtain ⟨r2, σ1, h5, h⟩ := z_bind_some h
  refine z_calli hx (As := [.int (zi x1)]) (k := 0) (met_X2_hasFrame (z_l C) (z_g C) (z_ok_sd hx) (show 0 < 6 by decide) h5) (z_lt0 (z_ok_sd hx) (by decide)) (z_ka0 (z_ok_sd hx) (show 0 < 6 by decide) _) rfl rfl cv_X5_114 (z_room hR ⟨Nat.le_of_ble_eq_true rfl, Nat.le_of_ble_eq_true rfl⟩) ⟨rfl, rfl⟩ rfl rfl (Nat.le_of_ble_eq_true rfl) dX5_level_5 ?_
  refine z_if_ne hx (tgt := 13) dX5_level_8 (by decide) h (fun h => h) (fun hc h => ?_) (fun hc h => ?_)
  · refine z_aload_n hx 0 dX5_level_13 rfl ?_
    refine gf_X5_recording hx wf_X5_20 dX5_level_14 ?_
    refine z_iload_n hx 1 dX5_level_17 rfl ?_
    obtain ⟨r4, σ3, h18, h⟩ := z_bind_some h
    refine z_calli hx (As := [.int (zi x1)]) (k := 0) (met_X2_levelAt (z_l C) (z_g C) (z_ok_sd hx) (show 0 < 6 by decide) h18) (z_lt0 (z_ok_sd hx) (by decide)) (z_ka0 (z_ok_sd hx) (show 0 < 6 by decide) _) rfl rfl cv_X5_117 (z_room hR ⟨Nat.le_of_ble_eq_true rfl, Nat.le_of_ble_eq_true rfl⟩) ⟨rfl, rfl⟩ rfl rfl (Nat.le_of_ble_eq_true rfl) dX5_level_18 ?_
    cases h
    exact z_iret hx hq dX5_level_21
  · refine z_iconst hx (n := (-1)) dX5_level_11 ?_
    cases h
    exact z_iret hx hq dX5_level_12

theorem met_X5_level (l : Launch) (g : zG) (hg : g.1 = 0) {σ : zS} {x1 : Int} {rr : Int × zS} (h : f_X5_level σ x1 = some rr) : z_Met l yX5_level cX5_level 2 (some .int) rm_X5_level g [.ref (z_ad (g) 62), .int (zi x1)] σ (z_QI g rr.1 rr.2) := by
  refine z_enter (own := RX5) (sd := 0) (lv0 := [(0, .ref (z_ad (g) 62)), (1, .int (zi x1))]) (by decide) rfl (Nat.le_of_ble_eq_true rfl) hg rfl (fun C hx hl hgC hR hn hq => ?_)
  subst hgC
  refine z_sub [0, 1] rfl ?_
  exact w_X5_level hx hn hR hq σ x1 h
theorem dX5_cuts_0 : decode cX5_cuts 0 = .ok (.aload_n 0, 1) := by decide +kernel
theorem dX5_cuts_1 : decode cX5_cuts 1 = .ok (.invokevirtual 102, 3) := by decide +kernel
theorem dX5_cuts_4 : decode cX5_cuts 4 = .ok (.getfield 120, 3) := by decide +kernel
theorem dX5_cuts_7 : decode cX5_cuts 7 = .ok (.ireturn, 1) := by decide +kernel
abbrev rm_X5_cuts : Room := { frames := 6, cells := 0, slots := 0, locals := 146 }
theorem w_X5_cuts {C : zC} (hx : z_ok C cX5_cuts RX5 0) (hn : z_nL C = 1) (hR : z_R C = rm_X5_cuts) {rr : Int × zS} (hq : z_fin C (some .int) (z_QI (z_g C) rr.1 rr.2)) (σ : zS) (h : f_X5_cuts σ = some rr) : z_W C σ 0 [(0, .ref (z_ad (z_g C) 62))] [] := by
  unfold f_X5_cuts at h
  refine z_aload_n hx 0 dX5_cuts_0 rfl ?_
  obtain ⟨⟨⟩, σ1, h1, h⟩ := z_bind_some h
  refine z_callr hx (As := []) (k := 62) (met_X5_currentCuts (z_l C) (z_g C) (z_ok_sd hx) h1) (z_lt0 (z_ok_sd hx) (by decide)) (z_kb62 (z_ok_sd hx) _) rfl rfl cv_X5_102 (z_room hR ⟨Nat.le_of_ble_eq_true rfl, Nat.le_of_ble_eq_true rfl⟩) ⟨rfl, rfl⟩ rfl rfl (Nat.le_of_ble_eq_true rfl) dX5_cuts_1 ?_
  refine gf_X0_count hx wf_X5_120 dX5_cuts_4 ?_
  cases h
  exact z_iret hx hq dX5_cuts_7

theorem met_X5_cuts (l : Launch) (g : zG) (hg : g.1 = 0) {σ : zS} {rr : Int × zS} (h : f_X5_cuts σ = some rr) : z_Met l yX5_cuts cX5_cuts 1 (some .int) rm_X5_cuts g [.ref (z_ad (g) 62)] σ (z_QI g rr.1 rr.2) := by
  refine z_enter (own := RX5) (sd := 0) (lv0 := [(0, .ref (z_ad (g) 62))]) (by decide) rfl (Nat.le_of_ble_eq_true rfl) hg rfl (fun C hx hl hgC hR hn hq => ?_)
  subst hgC
  refine z_sub [0] rfl ?_
  exact w_X5_cuts hx hn hR hq σ h
theorem dX5_cut_0 : decode cX5_cut 0 = .ok (.aload_n 0, 1) := by decide +kernel
theorem dX5_cut_1 : decode cX5_cut 1 = .ok (.invokevirtual 102, 3) := by decide +kernel
theorem dX5_cut_4 : decode cX5_cut 4 = .ok (.astore_n 3, 1) := by decide +kernel
theorem dX5_cut_5 : decode cX5_cut 5 = .ok (.iload_n 1, 1) := by decide +kernel
theorem dX5_cut_6 : decode cX5_cut 6 = .ok (.ifCond .lt 20, 3) := by decide +kernel
theorem dX5_cut_9 : decode cX5_cut 9 = .ok (.iload_n 1, 1) := by decide +kernel
theorem dX5_cut_10 : decode cX5_cut 10 = .ok (.aload_n 3, 1) := by decide +kernel
theorem dX5_cut_11 : decode cX5_cut 11 = .ok (.getfield 120, 3) := by decide +kernel
theorem dX5_cut_14 : decode cX5_cut 14 = .ok (.if_icmp .ge 12, 3) := by decide +kernel
theorem dX5_cut_17 : decode cX5_cut 17 = .ok (.iload_n 2, 1) := by decide +kernel
theorem dX5_cut_18 : decode cX5_cut 18 = .ok (.ifCond .lt 8, 3) := by decide +kernel
theorem dX5_cut_21 : decode cX5_cut 21 = .ok (.iload_n 2, 1) := by decide +kernel
theorem dX5_cut_22 : decode cX5_cut 22 = .ok (.iconst 4, 1) := by decide +kernel
theorem dX5_cut_23 : decode cX5_cut 23 = .ok (.if_icmp .le 5, 3) := by decide +kernel
theorem dX5_cut_26 : decode cX5_cut 26 = .ok (.iconst (-1), 1) := by decide +kernel
theorem dX5_cut_27 : decode cX5_cut 27 = .ok (.ireturn, 1) := by decide +kernel
theorem dX5_cut_28 : decode cX5_cut 28 = .ok (.aload_n 3, 1) := by decide +kernel
theorem dX5_cut_29 : decode cX5_cut 29 = .ok (.iload_n 1, 1) := by decide +kernel
theorem dX5_cut_30 : decode cX5_cut 30 = .ok (.iload_n 2, 1) := by decide +kernel
theorem dX5_cut_31 : decode cX5_cut 31 = .ok (.invokevirtual 123, 3) := by decide +kernel
theorem dX5_cut_34 : decode cX5_cut 34 = .ok (.ireturn, 1) := by decide +kernel
abbrev rm_X5_cut : Room := { frames := 6, cells := 0, slots := 0, locals := 146 }
theorem w_X5_cut_b26 {C : zC} (hx : z_ok C cX5_cut RX5 0) (hn : z_nL C = 4) (hR : z_R C = rm_X5_cut) {rr : Int × zS} (hq : z_fin C (some .int) (z_QI (z_g C) rr.1 rr.2)) (σ : zS) (h : f_X5_cut_b26 σ = some rr) : z_W C σ 26 [] [] := by
  unfold f_X5_cut_b26 at h
  refine z_iconst hx (n := (-1)) dX5_cut_26 ?_
  cases h
  exact z_iret hx hq dX5_cut_27

theorem w_X5_cut {C : zC} (hx : z_ok C cX5_cut RX5 0) (hn : z_nL C = 4) (hR : z_R C = rm_X5_cut) {rr : Int × zS} (hq : z_fin C (some .int) (z_QI (z_g C) rr.1 rr.2)) (σ : zS) (x1 : Int) (x2 : Int) (h : f_X5_cut σ x1 x2 = some rr) : z_W C σ 0 [(0, .ref (z_ad (z_g C) 62)), (1, .int (zi x1)), (2, .int (zi x2))] [] := by
  unfold f_X5_cut at h
  refine z_aload_n hx 0 dX5_cut_0 rfl ?_
  obtain ⟨⟨⟩, σ1, h1, h⟩ := z_bind_some h
  refine z_callr hx (As := []) (k := 62) (met_X5_currentCuts (z_l C) (z_g C) (z_ok_sd hx) h1) (z_lt0 (z_ok_sd hx) (by decide)) (z_kb62 (z_ok_sd hx) _) rfl rfl cv_X5_102 (z_room hR ⟨Nat.le_of_ble_eq_true rfl, Nat.le_of_ble_eq_true rfl⟩) ⟨rfl, rfl⟩ rfl rfl (Nat.le_of_ble_eq_true rfl) dX5_cut_1 ?_
  refine z_astore_n hx hn (lv' := [(3, .ref (z_ad (z_g C) 48)), (0, .ref (z_ad (z_g C) 62)), (1, .int (zi x1)), (2, .int (zi x2))]) dX5_cut_4 (by decide) rfl ?_
  refine z_iload_n hx 2 dX5_cut_5 rfl ?_
  refine z_if_lt hx (tgt := 26) dX5_cut_6 (by decide) h (fun h => h) (fun hc h => ?_) (fun hc h => ?_)
  · refine z_sub [] rfl ?_
    exact w_X5_cut_b26 hx hn hR hq σ1 h
  · refine z_iload_n hx 2 dX5_cut_9 rfl ?_
    refine z_aload_n hx 0 dX5_cut_10 rfl ?_
    refine gf_X0_count hx wf_X5_120 dX5_cut_11 ?_
    refine z_icmp_ge hx (tgt := 26) dX5_cut_14 (by decide) h (fun h => h) (fun hc h => ?_) (fun hc h => ?_)
    · refine z_sub [] rfl ?_
      exact w_X5_cut_b26 hx hn hR hq σ1 h
    · refine z_iload_n hx 3 dX5_cut_17 rfl ?_
      refine z_if_lt hx (tgt := 26) dX5_cut_18 (by decide) h (fun h => h) (fun hc h => ?_) (fun hc h => ?_)
      · refine z_sub [] rfl ?_
        exact w_X5_cut_b26 hx hn hR hq σ1 h
      · refine z_iload_n hx 3 dX5_cut_21 rfl ?_
        refine z_iconst hx (n := 4) dX5_cut_22 ?_
        refine z_icmp_le hx (tgt := 28) dX5_cut_23 (by decide) h (fun h => ⟨h, by decide⟩) (fun hc h => ?_) (fun hc h => ?_)
        · refine z_aload_n hx 0 dX5_cut_28 rfl ?_
          refine z_iload_n hx 2 dX5_cut_29 rfl ?_
          refine z_iload_n hx 3 dX5_cut_30 rfl ?_
          obtain ⟨r3, σ2, h31, h⟩ := z_bind_some h
          refine z_calli hx (As := [.int (zi x1), .int (zi x2)]) (k := 48) (met_X0_numberOfCut (z_l C) (z_g C) (z_ok_sd hx) h31) (z_lt0 (z_ok_sd hx) (by decide)) (z_kb48 (z_ok_sd hx) _) rfl rfl cv_X5_123 (z_room hR ⟨Nat.le_of_ble_eq_true rfl, Nat.le_of_ble_eq_true rfl⟩) ⟨rfl, rfl⟩ rfl rfl (Nat.le_of_ble_eq_true rfl) dX5_cut_31 ?_
          cases h
          exact z_iret hx hq dX5_cut_34
        · refine z_sub [] rfl ?_
          exact w_X5_cut_b26 hx hn hR hq σ1 h

theorem met_X5_cut (l : Launch) (g : zG) (hg : g.1 = 0) {σ : zS} {x1 : Int} {x2 : Int} {rr : Int × zS} (h : f_X5_cut σ x1 x2 = some rr) : z_Met l yX5_cut cX5_cut 4 (some .int) rm_X5_cut g [.ref (z_ad (g) 62), .int (zi x1), .int (zi x2)] σ (z_QI g rr.1 rr.2) := by
  refine z_enter (own := RX5) (sd := 0) (lv0 := [(0, .ref (z_ad (g) 62)), (1, .int (zi x1)), (2, .int (zi x2))]) (by decide) rfl (Nat.le_of_ble_eq_true rfl) hg rfl (fun C hx hl hgC hR hn hq => ?_)
  subst hgC
  refine z_sub [0, 1, 2] rfl ?_
  exact w_X5_cut hx hn hR hq σ x1 x2 h
theorem dX5_sum_0 : decode cX5_sum 0 = .ok (.aload_n 0, 1) := by decide +kernel
theorem dX5_sum_1 : decode cX5_sum 1 = .ok (.invokevirtual 102, 3) := by decide +kernel
theorem dX5_sum_4 : decode cX5_sum 4 = .ok (.astore_n 2, 1) := by decide +kernel
theorem dX5_sum_5 : decode cX5_sum 5 = .ok (.iload_n 1, 1) := by decide +kernel
theorem dX5_sum_6 : decode cX5_sum 6 = .ok (.tableswitch 41 0 2 #[26, 31, 36], 26) := by decide +kernel
theorem dX5_sum_32 : decode cX5_sum 32 = .ok (.aload_n 2, 1) := by decide +kernel
theorem dX5_sum_33 : decode cX5_sum 33 = .ok (.invokevirtual 126, 3) := by decide +kernel
theorem dX5_sum_36 : decode cX5_sum 36 = .ok (.ireturn, 1) := by decide +kernel
theorem dX5_sum_37 : decode cX5_sum 37 = .ok (.aload_n 2, 1) := by decide +kernel
theorem dX5_sum_38 : decode cX5_sum 38 = .ok (.invokevirtual 130, 3) := by decide +kernel
theorem dX5_sum_41 : decode cX5_sum 41 = .ok (.ireturn, 1) := by decide +kernel
theorem dX5_sum_42 : decode cX5_sum 42 = .ok (.aload_n 2, 1) := by decide +kernel
theorem dX5_sum_43 : decode cX5_sum 43 = .ok (.invokevirtual 133, 3) := by decide +kernel
theorem dX5_sum_46 : decode cX5_sum 46 = .ok (.ireturn, 1) := by decide +kernel
theorem dX5_sum_47 : decode cX5_sum 47 = .ok (.iconst (-1), 1) := by decide +kernel
theorem dX5_sum_48 : decode cX5_sum 48 = .ok (.ireturn, 1) := by decide +kernel
abbrev rm_X5_sum : Room := { frames := 6, cells := 0, slots := 0, locals := 146 }
theorem w_X5_sum {C : zC} (hx : z_ok C cX5_sum RX5 0) (hn : z_nL C = 3) (hR : z_R C = rm_X5_sum) {rr : Int × zS} (hq : z_fin C (some .int) (z_QI (z_g C) rr.1 rr.2)) (σ : zS) (x1 : Int) (h : f_X5_sum σ x1 = some rr) : z_W C σ 0 [(0, .ref (z_ad (z_g C) 62)), (1, .int (zi x1))] [] := by
  unfold f_X5_sum at h
  refine z_aload_n hx 0 dX5_sum_0 rfl ?_
  obtain ⟨⟨⟩, σ1, h1, h⟩ := z_bind_some h
  refine z_callr hx (As := []) (k := 62) (met_X5_currentCuts (z_l C) (z_g C) (z_ok_sd hx) h1) (z_lt0 (z_ok_sd hx) (by decide)) (z_kb62 (z_ok_sd hx) _) rfl rfl cv_X5_102 (z_room hR ⟨Nat.le_of_ble_eq_true rfl, Nat.le_of_ble_eq_true rfl⟩) ⟨rfl, rfl⟩ rfl rfl (Nat.le_of_ble_eq_true rfl) dX5_sum_1 ?_
  refine z_astore_n hx hn (lv' := [(2, .ref (z_ad (z_g C) 48)), (0, .ref (z_ad (z_g C) 62)), (1, .int (zi x1))]) dX5_sum_4 (by decide) rfl ?_
  refine z_iload_n hx 2 dX5_sum_5 rfl ?_
  obtain ⟨hr, h⟩ := z_gd h
  by_cases hc0 : x1 = 0
  · rw [if_pos hc0] at h
    refine z_tswIn hx (tgt := 32) (off := 26) dX5_sum_6 hr (by omega) (by omega) (by rw [hc0]; rfl) (by decide) ?_
    refine z_aload_n hx 0 dX5_sum_32 rfl ?_
    obtain ⟨r7, σ6, h33, h⟩ := z_bind_some h
    refine z_calli hx (As := []) (k := 48) (met_X0_cutFrames (z_l C) (z_g C) (z_ok_sd hx) h33) (z_lt0 (z_ok_sd hx) (by decide)) (z_kb48 (z_ok_sd hx) _) rfl rfl cv_X5_126 (z_room hR ⟨Nat.le_of_ble_eq_true rfl, Nat.le_of_ble_eq_true rfl⟩) ⟨rfl, rfl⟩ rfl rfl (Nat.le_of_ble_eq_true rfl) dX5_sum_33 ?_
    cases h
    exact z_iret hx hq dX5_sum_36
  · rw [if_neg hc0] at h
    by_cases hc1 : x1 = 1
    · rw [if_pos hc1] at h
      refine z_tswIn hx (tgt := 37) (off := 31) dX5_sum_6 hr (by omega) (by omega) (by rw [hc1]; rfl) (by decide) ?_
      refine z_aload_n hx 0 dX5_sum_37 rfl ?_
      obtain ⟨r5, σ4, h38, h⟩ := z_bind_some h
      refine z_calli hx (As := []) (k := 48) (met_X0_pauseFrames (z_l C) (z_g C) (z_ok_sd hx) h38) (z_lt0 (z_ok_sd hx) (by decide)) (z_kb48 (z_ok_sd hx) _) rfl rfl cv_X5_130 (z_room hR ⟨Nat.le_of_ble_eq_true rfl, Nat.le_of_ble_eq_true rfl⟩) ⟨rfl, rfl⟩ rfl rfl (Nat.le_of_ble_eq_true rfl) dX5_sum_38 ?_
      cases h
      exact z_iret hx hq dX5_sum_41
    · rw [if_neg hc1] at h
      by_cases hc2 : x1 = 2
      · rw [if_pos hc2] at h
        refine z_tswIn hx (tgt := 42) (off := 36) dX5_sum_6 hr (by omega) (by omega) (by rw [hc2]; rfl) (by decide) ?_
        refine z_aload_n hx 0 dX5_sum_42 rfl ?_
        obtain ⟨r3, σ2, h43, h⟩ := z_bind_some h
        refine z_calli hx (As := []) (k := 48) (met_X0_roughCuts (z_l C) (z_g C) (z_ok_sd hx) h43) (z_lt0 (z_ok_sd hx) (by decide)) (z_kb48 (z_ok_sd hx) _) rfl rfl cv_X5_133 (z_room hR ⟨Nat.le_of_ble_eq_true rfl, Nat.le_of_ble_eq_true rfl⟩) ⟨rfl, rfl⟩ rfl rfl (Nat.le_of_ble_eq_true rfl) dX5_sum_43 ?_
        cases h
        exact z_iret hx hq dX5_sum_46
      · rw [if_neg hc2] at h
        refine z_tswOut hx (tgt := 47) dX5_sum_6 hr (by omega) (by decide) ?_
        refine z_iconst hx (n := (-1)) dX5_sum_47 ?_
        cases h
        exact z_iret hx hq dX5_sum_48

theorem met_X5_sum (l : Launch) (g : zG) (hg : g.1 = 0) {σ : zS} {x1 : Int} {rr : Int × zS} (h : f_X5_sum σ x1 = some rr) : z_Met l yX5_sum cX5_sum 3 (some .int) rm_X5_sum g [.ref (z_ad (g) 62), .int (zi x1)] σ (z_QI g rr.1 rr.2) := by
  refine z_enter (own := RX5) (sd := 0) (lv0 := [(0, .ref (z_ad (g) 62)), (1, .int (zi x1))]) (by decide) rfl (Nat.le_of_ble_eq_true rfl) hg rfl (fun C hx hl hgC hR hn hq => ?_)
  subst hgC
  refine z_sub [0, 1] rfl ?_
  exact w_X5_sum hx hn hR hq σ x1 h
theorem dX5_bestWindow_0 : decode cX5_bestWindow 0 = .ok (.iconst 0, 1) := by decide +kernel
theorem dX5_bestWindow_1 : decode cX5_bestWindow 1 = .ok (.istore_n 1, 1) := by decide +kernel
theorem dX5_bestWindow_2 : decode cX5_bestWindow 2 = .ok (.bipush 21, 2) := by decide +kernel
theorem dX5_bestWindow_4 : decode cX5_bestWindow 4 = .ok (.istore_n 2, 1) := by decide +kernel
theorem dX5_bestWindow_5 : decode cX5_bestWindow 5 = .ok (.iconst 0, 1) := by decide +kernel
theorem dX5_bestWindow_6 : decode cX5_bestWindow 6 = .ok (.istore_n 3, 1) := by decide +kernel
theorem dX5_bestWindow_7 : decode cX5_bestWindow 7 = .ok (.iload_n 3, 1) := by decide +kernel
theorem dX5_bestWindow_8 : decode cX5_bestWindow 8 = .ok (.bipush 20, 2) := by decide +kernel
theorem dX5_bestWindow_10 : decode cX5_bestWindow 10 = .ok (.if_icmp .gt 50, 3) := by decide +kernel
theorem dX5_bestWindow_13 : decode cX5_bestWindow 13 = .ok (.aload_n 0, 1) := by decide +kernel
theorem dX5_bestWindow_14 : decode cX5_bestWindow 14 = .ok (.getfield 41, 3) := by decide +kernel
theorem dX5_bestWindow_17 : decode cX5_bestWindow 17 = .ok (.aload_n 0, 1) := by decide +kernel
theorem dX5_bestWindow_18 : decode cX5_bestWindow 18 = .ok (.getfield 20, 3) := by decide +kernel
theorem dX5_bestWindow_21 : decode cX5_bestWindow 21 = .ok (.aload_n 0, 1) := by decide +kernel
theorem dX5_bestWindow_22 : decode cX5_bestWindow 22 = .ok (.getfield 20, 3) := by decide +kernel
theorem dX5_bestWindow_25 : decode cX5_bestWindow 25 = .ok (.getfield 99, 3) := by decide +kernel
theorem dX5_bestWindow_28 : decode cX5_bestWindow 28 = .ok (.iconst 0, 1) := by decide +kernel
theorem dX5_bestWindow_29 : decode cX5_bestWindow 29 = .ok (.iaload, 1) := by decide +kernel
theorem dX5_bestWindow_30 : decode cX5_bestWindow 30 = .ok (.iload_n 3, 1) := by decide +kernel
theorem dX5_bestWindow_31 : decode cX5_bestWindow 31 = .ok (.invokevirtual 136, 3) := by decide +kernel
theorem dX5_bestWindow_34 : decode cX5_bestWindow 34 = .ok (.aload_n 0, 1) := by decide +kernel
theorem dX5_bestWindow_35 : decode cX5_bestWindow 35 = .ok (.getfield 41, 3) := by decide +kernel
theorem dX5_bestWindow_38 : decode cX5_bestWindow 38 = .ok (.invokevirtual 133, 3) := by decide +kernel
theorem dX5_bestWindow_41 : decode cX5_bestWindow 41 = .ok (.istore 4, 2) := by decide +kernel
theorem dX5_bestWindow_43 : decode cX5_bestWindow 43 = .ok (.iload 4, 2) := by decide +kernel
theorem dX5_bestWindow_45 : decode cX5_bestWindow 45 = .ok (.iload_n 2, 1) := by decide +kernel
theorem dX5_bestWindow_46 : decode cX5_bestWindow 46 = .ok (.if_icmp .ge 8, 3) := by decide +kernel
theorem dX5_bestWindow_49 : decode cX5_bestWindow 49 = .ok (.iload_n 3, 1) := by decide +kernel
theorem dX5_bestWindow_50 : decode cX5_bestWindow 50 = .ok (.istore_n 1, 1) := by decide +kernel
theorem dX5_bestWindow_51 : decode cX5_bestWindow 51 = .ok (.iload 4, 2) := by decide +kernel
theorem dX5_bestWindow_53 : decode cX5_bestWindow 53 = .ok (.istore_n 2, 1) := by decide +kernel
theorem dX5_bestWindow_54 : decode cX5_bestWindow 54 = .ok (.iinc 3 1, 3) := by decide +kernel
theorem dX5_bestWindow_57 : decode cX5_bestWindow 57 = .ok (.goto (-50), 3) := by decide +kernel
theorem dX5_bestWindow_60 : decode cX5_bestWindow 60 = .ok (.iload_n 1, 1) := by decide +kernel
theorem dX5_bestWindow_61 : decode cX5_bestWindow 61 = .ok (.ireturn, 1) := by decide +kernel
abbrev rm_X5_bestWindow : Room := { frames := 5, cells := 0, slots := 0, locals := 126 }
theorem w_X5_bestWindow_b54 {C : zC} (hx : z_ok C cX5_bestWindow RX5 0) (hn : z_nL C = 5) (hR : z_R C = rm_X5_bestWindow) {rr : Int × zS} (hq : z_fin C (some .int) (z_QI (z_g C) rr.1 rr.2)) {K7 : zS → Int → Int → Int → Option (Int × zS)} (hK7 : ∀ (σ : zS) (x1 : Int) (x2 : Int) (x3 : Int) , K7 σ x1 x2 x3 = some rr → z_W C σ 7 [(0, .ref (z_ad (z_g C) 62)), (1, .int (zi x1)), (2, .int (zi x2)), (3, .int (zi x3))] []) (σ : zS) (x1 : Int) (x2 : Int) (x3 : Int) (h : f_X5_bestWindow_b54 K7 σ x1 x2 x3 = some rr) : z_W C σ 54 [(0, .ref (z_ad (z_g C) 62)), (1, .int (zi x1)), (2, .int (zi x2)), (3, .int (zi x3))] [] := by
  unfold f_X5_bestWindow_b54 at h
  refine z_iinc hx hn 3 (lv' := [(3, .int (zi (x3 + 1))), (0, .ref (z_ad (z_g C) 62)), (1, .int (zi x1)), (2, .int (zi x2))]) dX5_bestWindow_54 rfl (by decide) rfl ?_
  refine z_goto hx (tgt := 7) dX5_bestWindow_57 (by decide) ?_
  refine z_sub [1, 2, 3, 0] rfl ?_
  exact hK7 σ x1 x2 (x3 + 1) h

theorem w_X5_bestWindow_b7 {C : zC} (hx : z_ok C cX5_bestWindow RX5 0) (hn : z_nL C = 5) (hR : z_R C = rm_X5_bestWindow) {rr : Int × zS} (hq : z_fin C (some .int) (z_QI (z_g C) rr.1 rr.2)) {K7 : zS → Int → Int → Int → Option (Int × zS)} (hK7 : ∀ (σ : zS) (x1 : Int) (x2 : Int) (x3 : Int) , K7 σ x1 x2 x3 = some rr → z_W C σ 7 [(0, .ref (z_ad (z_g C) 62)), (1, .int (zi x1)), (2, .int (zi x2)), (3, .int (zi x3))] []) (σ : zS) (x1 : Int) (x2 : Int) (x3 : Int) (h : f_X5_bestWindow_b7 K7 σ x1 x2 x3 = some rr) : z_W C σ 7 [(0, .ref (z_ad (z_g C) 62)), (1, .int (zi x1)), (2, .int (zi x2)), (3, .int (zi x3))] [] := by
  unfold f_X5_bestWindow_b7 at h
  refine z_iload_n hx 3 dX5_bestWindow_7 rfl ?_
  refine z_bipush hx (n := 20) dX5_bestWindow_8 rfl ?_
  refine z_icmp_gt hx (tgt := 60) dX5_bestWindow_10 (by decide) h (fun h => ⟨h, by decide⟩) (fun hc h => ?_) (fun hc h => ?_)
  · refine z_iload_n hx 1 dX5_bestWindow_60 rfl ?_
    cases h
    exact z_iret hx hq dX5_bestWindow_61
  · refine z_aload_n hx 0 dX5_bestWindow_13 rfl ?_
    refine gf_X5_cutList hx wf_X5_41 dX5_bestWindow_14 ?_
    refine z_aload_n hx 0 dX5_bestWindow_17 rfl ?_
    refine gf_X5_recording hx wf_X5_20 dX5_bestWindow_18 ?_
    refine z_aload_n hx 0 dX5_bestWindow_21 rfl ?_
    refine gf_X5_recording hx wf_X5_20 dX5_bestWindow_22 ?_
    refine gf_X2_settings hx wf_X5_99 (show 0 < 6 by decide) dX5_bestWindow_25 ?_
    refine z_iconst hx (n := 0) dX5_bestWindow_28 ?_
    refine z_iald hx (n := 7) (z_lt0 (z_ok_sd hx) (by decide)) (z_ka7 (z_ok_sd hx) (show 0 < 6 by decide) _) rfl (by decide) dX5_bestWindow_29 h (fun h => ?_)
    refine z_iload_n hx 3 dX5_bestWindow_30 rfl ?_
    obtain ⟨⟨⟩, σ1, h31, h⟩ := z_bind_some h
    refine z_callv hx (As := [.ref (z_ad (z_g C) 0), .int (zi (σ 7 0)), .int (zi x3)]) (k := 48) (met_X0_find (z_l C) (z_g C) (z_ok_sd hx) h31) (z_lt0 (z_ok_sd hx) (by decide)) (z_kb48 (z_ok_sd hx) _) rfl rfl cv_X5_136 (z_room hR ⟨Nat.le_of_ble_eq_true rfl, Nat.le_of_ble_eq_true rfl⟩) ⟨rfl, rfl⟩ rfl rfl (Nat.le_of_ble_eq_true rfl) dX5_bestWindow_31 ?_
    refine z_aload_n hx 0 dX5_bestWindow_34 rfl ?_
    refine gf_X5_cutList hx wf_X5_41 dX5_bestWindow_35 ?_
    obtain ⟨r3, σ2, h38, h⟩ := z_bind_some h
    refine z_calli hx (As := []) (k := 48) (met_X0_roughCuts (z_l C) (z_g C) (z_ok_sd hx) h38) (z_lt0 (z_ok_sd hx) (by decide)) (z_kb48 (z_ok_sd hx) _) rfl rfl cv_X5_133 (z_room hR ⟨Nat.le_of_ble_eq_true rfl, Nat.le_of_ble_eq_true rfl⟩) ⟨rfl, rfl⟩ rfl rfl (Nat.le_of_ble_eq_true rfl) dX5_bestWindow_38 ?_
    refine z_istore hx hn (lv' := [(4, .int (zi r3)), (0, .ref (z_ad (z_g C) 62)), (1, .int (zi x1)), (2, .int (zi x2)), (3, .int (zi x3))]) dX5_bestWindow_41 (by decide) rfl ?_
    refine z_iload hx 0 dX5_bestWindow_43 rfl ?_
    refine z_iload_n hx 3 dX5_bestWindow_45 rfl ?_
    refine z_icmp_ge hx (tgt := 54) dX5_bestWindow_46 (by decide) h (fun h => h) (fun hc h => ?_) (fun hc h => ?_)
    · refine z_sub [1, 2, 3, 4] rfl ?_
      exact w_X5_bestWindow_b54 hx hn hR hq hK7 σ2 x1 x2 x3 h
    · refine z_iload_n hx 4 dX5_bestWindow_49 rfl ?_
      refine z_istore_n hx hn (lv' := [(1, .int (zi x3)), (4, .int (zi r3)), (0, .ref (z_ad (z_g C) 62)), (2, .int (zi x2)), (3, .int (zi x3))]) dX5_bestWindow_50 (by decide) rfl ?_
      refine z_iload hx 1 dX5_bestWindow_51 rfl ?_
      refine z_istore_n hx hn (lv' := [(2, .int (zi r3)), (1, .int (zi x3)), (4, .int (zi r3)), (0, .ref (z_ad (z_g C) 62)), (3, .int (zi x3))]) dX5_bestWindow_53 (by decide) rfl ?_
      refine z_sub [3, 1, 0, 4] rfl ?_
      exact w_X5_bestWindow_b54 hx hn hR hq hK7 σ2 x3 r3 x3 h

theorem w_X5_bestWindow_l7 {C : zC} (hx : z_ok C cX5_bestWindow RX5 0) (hn : z_nL C = 5) (hR : z_R C = rm_X5_bestWindow) {rr : Int × zS} (hq : z_fin C (some .int) (z_QI (z_g C) rr.1 rr.2)) : ∀ (n : Nat) (σ : zS) (x1 : Int) (x2 : Int) (x3 : Int) (_ : f_X5_bestWindow_l7 n σ x1 x2 x3 = some rr), z_W C σ 7 [(0, .ref (z_ad (z_g C) 62)), (1, .int (zi x1)), (2, .int (zi x2)), (3, .int (zi x3))] [] := by
  intro n
  induction n with
  | zero => intro σ x1 x2 x3 h; cases h
  | succ n ih =>
    intro σ x1 x2 x3 h
    exact w_X5_bestWindow_b7 hx hn hR hq ih σ x1 x2 x3 h
theorem w_X5_bestWindow {C : zC} (hx : z_ok C cX5_bestWindow RX5 0) (hn : z_nL C = 5) (hR : z_R C = rm_X5_bestWindow) {rr : Int × zS} (hq : z_fin C (some .int) (z_QI (z_g C) rr.1 rr.2)) (σ : zS) (h : f_X5_bestWindow σ = some rr) : z_W C σ 0 [(0, .ref (z_ad (z_g C) 62))] [] := by
  unfold f_X5_bestWindow at h
  refine z_iconst hx (n := 0) dX5_bestWindow_0 ?_
  refine z_istore_n hx hn (lv' := [(1, .int (zi 0)), (0, .ref (z_ad (z_g C) 62))]) dX5_bestWindow_1 (by decide) rfl ?_
  refine z_bipush hx (n := 21) dX5_bestWindow_2 rfl ?_
  refine z_istore_n hx hn (lv' := [(2, .int (zi 21)), (1, .int (zi 0)), (0, .ref (z_ad (z_g C) 62))]) dX5_bestWindow_4 (by decide) rfl ?_
  refine z_iconst hx (n := 0) dX5_bestWindow_5 ?_
  refine z_istore_n hx hn (lv' := [(3, .int (zi 0)), (2, .int (zi 21)), (1, .int (zi 0)), (0, .ref (z_ad (z_g C) 62))]) dX5_bestWindow_6 (by decide) rfl ?_
  refine z_sub [3, 2, 1, 0] rfl ?_
  exact w_X5_bestWindow_l7 hx hn hR hq z_fuel σ 0 21 0 h

theorem met_X5_bestWindow (l : Launch) (g : zG) (hg : g.1 = 0) {σ : zS} {rr : Int × zS} (h : f_X5_bestWindow σ = some rr) : z_Met l yX5_bestWindow cX5_bestWindow 5 (some .int) rm_X5_bestWindow g [.ref (z_ad (g) 62)] σ (z_QI g rr.1 rr.2) := by
  refine z_enter (own := RX5) (sd := 0) (lv0 := [(0, .ref (z_ad (g) 62))]) (by decide) rfl (Nat.le_of_ble_eq_true rfl) hg rfl (fun C hx hl hgC hR hn hq => ?_)
  subst hgC
  refine z_sub [0] rfl ?_
  exact w_X5_bestWindow hx hn hR hq σ h
theorem dX5_greatestDoubt_0 : decode cX5_greatestDoubt 0 = .ok (.iload_n 1, 1) := by decide +kernel
theorem dX5_greatestDoubt_1 : decode cX5_greatestDoubt 1 = .ok (.ifCond .ge 5, 3) := by decide +kernel
theorem dX5_greatestDoubt_4 : decode cX5_greatestDoubt 4 = .ok (.iconst (-1), 1) := by decide +kernel
theorem dX5_greatestDoubt_5 : decode cX5_greatestDoubt 5 = .ok (.ireturn, 1) := by decide +kernel
theorem dX5_greatestDoubt_6 : decode cX5_greatestDoubt 6 = .ok (.bipush 100, 2) := by decide +kernel
theorem dX5_greatestDoubt_8 : decode cX5_greatestDoubt 8 = .ok (.istore_n 2, 1) := by decide +kernel
theorem dX5_greatestDoubt_9 : decode cX5_greatestDoubt 9 = .ok (.iload_n 2, 1) := by decide +kernel
theorem dX5_greatestDoubt_10 : decode cX5_greatestDoubt 10 = .ok (.ifCond .lt 62, 3) := by decide +kernel
theorem dX5_greatestDoubt_13 : decode cX5_greatestDoubt 13 = .ok (.iload_n 2, 1) := by decide +kernel
theorem dX5_greatestDoubt_14 : decode cX5_greatestDoubt 14 = .ok (.bipush 100, 2) := by decide +kernel
theorem dX5_greatestDoubt_16 : decode cX5_greatestDoubt 16 = .ok (.if_icmp .eq 16, 3) := by decide +kernel
theorem dX5_greatestDoubt_19 : decode cX5_greatestDoubt 19 = .ok (.aload_n 0, 1) := by decide +kernel
theorem dX5_greatestDoubt_20 : decode cX5_greatestDoubt 20 = .ok (.getfield 20, 3) := by decide +kernel
theorem dX5_greatestDoubt_23 : decode cX5_greatestDoubt 23 = .ok (.iload_n 2, 1) := by decide +kernel
theorem dX5_greatestDoubt_24 : decode cX5_greatestDoubt 24 = .ok (.iconst 1, 1) := by decide +kernel
theorem dX5_greatestDoubt_25 : decode cX5_greatestDoubt 25 = .ok (.iadd, 1) := by decide +kernel
theorem dX5_greatestDoubt_26 : decode cX5_greatestDoubt 26 = .ok (.invokevirtual 140, 3) := by decide +kernel
theorem dX5_greatestDoubt_29 : decode cX5_greatestDoubt 29 = .ok (.ifCond .eq 24, 3) := by decide +kernel
theorem dX5_greatestDoubt_32 : decode cX5_greatestDoubt 32 = .ok (.aload_n 0, 1) := by decide +kernel
theorem dX5_greatestDoubt_33 : decode cX5_greatestDoubt 33 = .ok (.getfield 41, 3) := by decide +kernel
theorem dX5_greatestDoubt_36 : decode cX5_greatestDoubt 36 = .ok (.aload_n 0, 1) := by decide +kernel
theorem dX5_greatestDoubt_37 : decode cX5_greatestDoubt 37 = .ok (.getfield 20, 3) := by decide +kernel
theorem dX5_greatestDoubt_40 : decode cX5_greatestDoubt 40 = .ok (.iload_n 2, 1) := by decide +kernel
theorem dX5_greatestDoubt_41 : decode cX5_greatestDoubt 41 = .ok (.aload_n 0, 1) := by decide +kernel
theorem dX5_greatestDoubt_42 : decode cX5_greatestDoubt 42 = .ok (.getfield 20, 3) := by decide +kernel
theorem dX5_greatestDoubt_45 : decode cX5_greatestDoubt 45 = .ok (.getfield 99, 3) := by decide +kernel
theorem dX5_greatestDoubt_48 : decode cX5_greatestDoubt 48 = .ok (.iconst 2, 1) := by decide +kernel
theorem dX5_greatestDoubt_49 : decode cX5_greatestDoubt 49 = .ok (.iaload, 1) := by decide +kernel
theorem dX5_greatestDoubt_50 : decode cX5_greatestDoubt 50 = .ok (.invokevirtual 136, 3) := by decide +kernel
theorem dX5_greatestDoubt_53 : decode cX5_greatestDoubt 53 = .ok (.aload_n 0, 1) := by decide +kernel
theorem dX5_greatestDoubt_54 : decode cX5_greatestDoubt 54 = .ok (.getfield 41, 3) := by decide +kernel
theorem dX5_greatestDoubt_57 : decode cX5_greatestDoubt 57 = .ok (.invokevirtual 126, 3) := by decide +kernel
theorem dX5_greatestDoubt_60 : decode cX5_greatestDoubt 60 = .ok (.iload_n 1, 1) := by decide +kernel
theorem dX5_greatestDoubt_61 : decode cX5_greatestDoubt 61 = .ok (.if_icmp .gt 5, 3) := by decide +kernel
theorem dX5_greatestDoubt_64 : decode cX5_greatestDoubt 64 = .ok (.iload_n 2, 1) := by decide +kernel
theorem dX5_greatestDoubt_65 : decode cX5_greatestDoubt 65 = .ok (.ireturn, 1) := by decide +kernel
theorem dX5_greatestDoubt_66 : decode cX5_greatestDoubt 66 = .ok (.iinc 2 (-1), 3) := by decide +kernel
theorem dX5_greatestDoubt_69 : decode cX5_greatestDoubt 69 = .ok (.goto (-60), 3) := by decide +kernel
theorem dX5_greatestDoubt_72 : decode cX5_greatestDoubt 72 = .ok (.bipush (-9), 2) := by decide +kernel
theorem dX5_greatestDoubt_74 : decode cX5_greatestDoubt 74 = .ok (.ireturn, 1) := by decide +kernel
abbrev rm_X5_greatestDoubt : Room := { frames := 5, cells := 0, slots := 0, locals := 126 }
theorem w_X5_greatestDoubt_b53 {C : zC} (hx : z_ok C cX5_greatestDoubt RX5 0) (hn : z_nL C = 3) (hR : z_R C = rm_X5_greatestDoubt) {rr : Int × zS} (hq : z_fin C (some .int) (z_QI (z_g C) rr.1 rr.2)) {K9 : zS → Int → Int → Option (Int × zS)} (hK9 : ∀ (σ : zS) (x1 : Int) (x2 : Int) , K9 σ x1 x2 = some rr → z_W C σ 9 [(0, .ref (z_ad (z_g C) 62)), (1, .int (zi x1)), (2, .int (zi x2))] []) (σ : zS) (x1 : Int) (x2 : Int) (h : f_X5_greatestDoubt_b53 K9 σ x1 x2 = some rr) : z_W C σ 53 [(0, .ref (z_ad (z_g C) 62)), (1, .int (zi x1)), (2, .int (zi x2))] [] := by
  unfold f_X5_greatestDoubt_b53 at h
  refine z_aload_n hx 0 dX5_greatestDoubt_53 rfl ?_
  refine gf_X5_cutList hx wf_X5_41 dX5_greatestDoubt_54 ?_
  obtain ⟨r2, σ1, h57, h⟩ := z_bind_some h
  refine z_calli hx (As := []) (k := 48) (met_X0_cutFrames (z_l C) (z_g C) (z_ok_sd hx) h57) (z_lt0 (z_ok_sd hx) (by decide)) (z_kb48 (z_ok_sd hx) _) rfl rfl cv_X5_126 (z_room hR ⟨Nat.le_of_ble_eq_true rfl, Nat.le_of_ble_eq_true rfl⟩) ⟨rfl, rfl⟩ rfl rfl (Nat.le_of_ble_eq_true rfl) dX5_greatestDoubt_57 ?_
  refine z_iload_n hx 1 dX5_greatestDoubt_60 rfl ?_
  refine z_icmp_gt hx (tgt := 66) dX5_greatestDoubt_61 (by decide) h (fun h => h) (fun hc h => ?_) (fun hc h => ?_)
  · refine z_iinc hx hn 2 (lv' := [(2, .int (zi (x2 + (-1)))), (0, .ref (z_ad (z_g C) 62)), (1, .int (zi x1))]) dX5_greatestDoubt_66 rfl (by decide) rfl ?_
    refine z_goto hx (tgt := 9) dX5_greatestDoubt_69 (by decide) ?_
    refine z_sub [1, 2, 0] rfl ?_
    exact hK9 σ1 x1 (x2 + (-1)) h
  · refine z_iload_n hx 2 dX5_greatestDoubt_64 rfl ?_
    cases h
    exact z_iret hx hq dX5_greatestDoubt_65

theorem w_X5_greatestDoubt_b32 {C : zC} (hx : z_ok C cX5_greatestDoubt RX5 0) (hn : z_nL C = 3) (hR : z_R C = rm_X5_greatestDoubt) {rr : Int × zS} (hq : z_fin C (some .int) (z_QI (z_g C) rr.1 rr.2)) {K9 : zS → Int → Int → Option (Int × zS)} (hK9 : ∀ (σ : zS) (x1 : Int) (x2 : Int) , K9 σ x1 x2 = some rr → z_W C σ 9 [(0, .ref (z_ad (z_g C) 62)), (1, .int (zi x1)), (2, .int (zi x2))] []) (σ : zS) (x1 : Int) (x2 : Int) (h : f_X5_greatestDoubt_b32 K9 σ x1 x2 = some rr) : z_W C σ 32 [(0, .ref (z_ad (z_g C) 62)), (1, .int (zi x1)), (2, .int (zi x2))] [] := by
  unfold f_X5_greatestDoubt_b32 at h
  refine z_aload_n hx 0 dX5_greatestDoubt_32 rfl ?_
  refine gf_X5_cutList hx wf_X5_41 dX5_greatestDoubt_33 ?_
  refine z_aload_n hx 0 dX5_greatestDoubt_36 rfl ?_
  refine gf_X5_recording hx wf_X5_20 dX5_greatestDoubt_37 ?_
  refine z_iload_n hx 2 dX5_greatestDoubt_40 rfl ?_
  refine z_aload_n hx 0 dX5_greatestDoubt_41 rfl ?_
  refine gf_X5_recording hx wf_X5_20 dX5_greatestDoubt_42 ?_
  refine gf_X2_settings hx wf_X5_99 (show 0 < 6 by decide) dX5_greatestDoubt_45 ?_
  refine z_iconst hx (n := 2) dX5_greatestDoubt_48 ?_
  refine z_iald hx (n := 7) (z_lt0 (z_ok_sd hx) (by decide)) (z_ka7 (z_ok_sd hx) (show 0 < 6 by decide) _) rfl (by decide) dX5_greatestDoubt_49 h (fun h => ?_)
  obtain ⟨⟨⟩, σ1, h50, h⟩ := z_bind_some h
  refine z_callv hx (As := [.ref (z_ad (z_g C) 0), .int (zi x2), .int (zi (σ 7 2))]) (k := 48) (met_X0_find (z_l C) (z_g C) (z_ok_sd hx) h50) (z_lt0 (z_ok_sd hx) (by decide)) (z_kb48 (z_ok_sd hx) _) rfl rfl cv_X5_136 (z_room hR ⟨Nat.le_of_ble_eq_true rfl, Nat.le_of_ble_eq_true rfl⟩) ⟨rfl, rfl⟩ rfl rfl (Nat.le_of_ble_eq_true rfl) dX5_greatestDoubt_50 ?_
  refine z_sub [0, 1, 2] rfl ?_
  exact w_X5_greatestDoubt_b53 hx hn hR hq hK9 σ1 x1 x2 h

theorem w_X5_greatestDoubt_b9 {C : zC} (hx : z_ok C cX5_greatestDoubt RX5 0) (hn : z_nL C = 3) (hR : z_R C = rm_X5_greatestDoubt) {rr : Int × zS} (hq : z_fin C (some .int) (z_QI (z_g C) rr.1 rr.2)) {K9 : zS → Int → Int → Option (Int × zS)} (hK9 : ∀ (σ : zS) (x1 : Int) (x2 : Int) , K9 σ x1 x2 = some rr → z_W C σ 9 [(0, .ref (z_ad (z_g C) 62)), (1, .int (zi x1)), (2, .int (zi x2))] []) (σ : zS) (x1 : Int) (x2 : Int) (h : f_X5_greatestDoubt_b9 K9 σ x1 x2 = some rr) : z_W C σ 9 [(0, .ref (z_ad (z_g C) 62)), (1, .int (zi x1)), (2, .int (zi x2))] [] := by
  unfold f_X5_greatestDoubt_b9 at h
  refine z_iload_n hx 2 dX5_greatestDoubt_9 rfl ?_
  refine z_if_lt hx (tgt := 72) dX5_greatestDoubt_10 (by decide) h (fun h => h) (fun hc h => ?_) (fun hc h => ?_)
  · refine z_bipush hx (n := (-9)) dX5_greatestDoubt_72 rfl ?_
    cases h
    exact z_iret hx hq dX5_greatestDoubt_74
  · refine z_iload_n hx 2 dX5_greatestDoubt_13 rfl ?_
    refine z_bipush hx (n := 100) dX5_greatestDoubt_14 rfl ?_
    refine z_icmp_eq hx (tgt := 32) dX5_greatestDoubt_16 (by decide) h (fun h => ⟨h, by decide⟩) (fun hc h => ?_) (fun hc h => ?_)
    · refine z_sub [0, 1, 2] rfl ?_
      exact w_X5_greatestDoubt_b32 hx hn hR hq hK9 σ x1 x2 h
    · refine z_aload_n hx 0 dX5_greatestDoubt_19 rfl ?_
      refine gf_X5_recording hx wf_X5_20 dX5_greatestDoubt_20 ?_
      refine z_iload_n hx 2 dX5_greatestDoubt_23 rfl ?_
      refine z_iconst hx (n := 1) dX5_greatestDoubt_24 ?_
      refine z_iadd hx dX5_greatestDoubt_25 ?_
      obtain ⟨r2, σ1, h26, h⟩ := z_bind_some h
      refine z_calli hx (As := [.int (zi (x2 + 1))]) (k := 0) (met_X2_hasFillerOfDoubt (z_l C) (z_g C) (z_ok_sd hx) (show 0 < 6 by decide) h26) (z_lt0 (z_ok_sd hx) (by decide)) (z_ka0 (z_ok_sd hx) (show 0 < 6 by decide) _) rfl rfl cv_X5_140 (z_room hR ⟨Nat.le_of_ble_eq_true rfl, Nat.le_of_ble_eq_true rfl⟩) ⟨rfl, rfl⟩ rfl rfl (Nat.le_of_ble_eq_true rfl) dX5_greatestDoubt_26 ?_
      refine z_if_eq hx (tgt := 53) dX5_greatestDoubt_29 (by decide) h (fun h => h) (fun hc h => ?_) (fun hc h => ?_)
      · refine z_sub [0, 1, 2] rfl ?_
        exact w_X5_greatestDoubt_b53 hx hn hR hq hK9 σ1 x1 x2 h
      · refine z_sub [0, 1, 2] rfl ?_
        exact w_X5_greatestDoubt_b32 hx hn hR hq hK9 σ1 x1 x2 h

theorem w_X5_greatestDoubt_l9 {C : zC} (hx : z_ok C cX5_greatestDoubt RX5 0) (hn : z_nL C = 3) (hR : z_R C = rm_X5_greatestDoubt) {rr : Int × zS} (hq : z_fin C (some .int) (z_QI (z_g C) rr.1 rr.2)) : ∀ (n : Nat) (σ : zS) (x1 : Int) (x2 : Int) (_ : f_X5_greatestDoubt_l9 n σ x1 x2 = some rr), z_W C σ 9 [(0, .ref (z_ad (z_g C) 62)), (1, .int (zi x1)), (2, .int (zi x2))] [] := by
  intro n
  induction n with
  | zero => intro σ x1 x2 h; cases h
  | succ n ih =>
    intro σ x1 x2 h
    exact w_X5_greatestDoubt_b9 hx hn hR hq ih σ x1 x2 h
theorem w_X5_greatestDoubt {C : zC} (hx : z_ok C cX5_greatestDoubt RX5 0) (hn : z_nL C = 3) (hR : z_R C = rm_X5_greatestDoubt) {rr : Int × zS} (hq : z_fin C (some .int) (z_QI (z_g C) rr.1 rr.2)) (σ : zS) (x1 : Int) (h : f_X5_greatestDoubt σ x1 = some rr) : z_W C σ 0 [(0, .ref (z_ad (z_g C) 62)), (1, .int (zi x1))] [] := by
  unfold f_X5_greatestDoubt at h
  refine z_iload_n hx 1 dX5_greatestDoubt_0 rfl ?_
  refine z_if_ge hx (tgt := 6) dX5_greatestDoubt_1 (by decide) h (fun h => h) (fun hc h => ?_) (fun hc h => ?_)
  · refine z_bipush hx (n := 100) dX5_greatestDoubt_6 rfl ?_
    refine z_istore_n hx hn (lv' := [(2, .int (zi 100)), (0, .ref (z_ad (z_g C) 62)), (1, .int (zi x1))]) dX5_greatestDoubt_8 (by decide) rfl ?_
    refine z_sub [1, 2, 0] rfl ?_
    exact w_X5_greatestDoubt_l9 hx hn hR hq z_fuel σ x1 100 h
  · refine z_iconst hx (n := (-1)) dX5_greatestDoubt_4 ?_
    cases h
    exact z_iret hx hq dX5_greatestDoubt_5

theorem met_X5_greatestDoubt (l : Launch) (g : zG) (hg : g.1 = 0) {σ : zS} {x1 : Int} {rr : Int × zS} (h : f_X5_greatestDoubt σ x1 = some rr) : z_Met l yX5_greatestDoubt cX5_greatestDoubt 3 (some .int) rm_X5_greatestDoubt g [.ref (z_ad (g) 62), .int (zi x1)] σ (z_QI g rr.1 rr.2) := by
  refine z_enter (own := RX5) (sd := 0) (lv0 := [(0, .ref (z_ad (g) 62)), (1, .int (zi x1))]) (by decide) rfl (Nat.le_of_ble_eq_true rfl) hg rfl (fun C hx hl hgC hR hn hq => ?_)
  subst hgC
  refine z_sub [0, 1] rfl ?_
  exact w_X5_greatestDoubt hx hn hR hq σ x1 h
theorem dX5_currentResult_0 : decode cX5_currentResult 0 = .ok (.aload_n 0, 1) := by decide +kernel
theorem dX5_currentResult_1 : decode cX5_currentResult 1 = .ok (.getfield 41, 3) := by decide +kernel
theorem dX5_currentResult_4 : decode cX5_currentResult 4 = .ok (.aload_n 0, 1) := by decide +kernel
theorem dX5_currentResult_5 : decode cX5_currentResult 5 = .ok (.getfield 20, 3) := by decide +kernel
theorem dX5_currentResult_8 : decode cX5_currentResult 8 = .ok (.aload_n 0, 1) := by decide +kernel
theorem dX5_currentResult_9 : decode cX5_currentResult 9 = .ok (.getfield 20, 3) := by decide +kernel
theorem dX5_currentResult_12 : decode cX5_currentResult 12 = .ok (.getfield 99, 3) := by decide +kernel
theorem dX5_currentResult_15 : decode cX5_currentResult 15 = .ok (.iconst 0, 1) := by decide +kernel
theorem dX5_currentResult_16 : decode cX5_currentResult 16 = .ok (.iaload, 1) := by decide +kernel
theorem dX5_currentResult_17 : decode cX5_currentResult 17 = .ok (.aload_n 0, 1) := by decide +kernel
theorem dX5_currentResult_18 : decode cX5_currentResult 18 = .ok (.getfield 20, 3) := by decide +kernel
theorem dX5_currentResult_21 : decode cX5_currentResult 21 = .ok (.getfield 99, 3) := by decide +kernel
theorem dX5_currentResult_24 : decode cX5_currentResult 24 = .ok (.iconst 2, 1) := by decide +kernel
theorem dX5_currentResult_25 : decode cX5_currentResult 25 = .ok (.iaload, 1) := by decide +kernel
theorem dX5_currentResult_26 : decode cX5_currentResult 26 = .ok (.invokevirtual 136, 3) := by decide +kernel
theorem dX5_currentResult_29 : decode cX5_currentResult 29 = .ok (.aload_n 0, 1) := by decide +kernel
theorem dX5_currentResult_30 : decode cX5_currentResult 30 = .ok (.getfield 48, 3) := by decide +kernel
theorem dX5_currentResult_33 : decode cX5_currentResult 33 = .ok (.aload_n 0, 1) := by decide +kernel
theorem dX5_currentResult_34 : decode cX5_currentResult 34 = .ok (.getfield 20, 3) := by decide +kernel
theorem dX5_currentResult_37 : decode cX5_currentResult 37 = .ok (.aload_n 0, 1) := by decide +kernel
theorem dX5_currentResult_38 : decode cX5_currentResult 38 = .ok (.getfield 41, 3) := by decide +kernel
theorem dX5_currentResult_41 : decode cX5_currentResult 41 = .ok (.invokevirtual 189, 3) := by decide +kernel
theorem dX5_currentResult_44 : decode cX5_currentResult 44 = .ok (.aload_n 0, 1) := by decide +kernel
theorem dX5_currentResult_45 : decode cX5_currentResult 45 = .ok (.getfield 48, 3) := by decide +kernel
theorem dX5_currentResult_48 : decode cX5_currentResult 48 = .ok (.areturn, 1) := by decide +kernel
abbrev rm_X5_currentResult : Room := { frames := 5, cells := 0, slots := 0, locals := 126 }
theorem w_X5_currentResult {C : zC} (hx : z_ok C cX5_currentResult RX5 0) (hn : z_nL C = 1) (hR : z_R C = rm_X5_currentResult) {rr : Unit × zS} (hq : z_fin C (some (.object "SpeechCleaner$Result")) (z_QR (z_g C) 54 rr.2)) (σ : zS) (h : f_X5_currentResult σ = some rr) : z_W C σ 0 [(0, .ref (z_ad (z_g C) 62))] [] := by
  unfold f_X5_currentResult at h
  refine z_aload_n hx 0 dX5_currentResult_0 rfl ?_
  refine gf_X5_cutList hx wf_X5_41 dX5_currentResult_1 ?_
  refine z_aload_n hx 0 dX5_currentResult_4 rfl ?_
  refine gf_X5_recording hx wf_X5_20 dX5_currentResult_5 ?_
  refine z_aload_n hx 0 dX5_currentResult_8 rfl ?_
  refine gf_X5_recording hx wf_X5_20 dX5_currentResult_9 ?_
  refine gf_X2_settings hx wf_X5_99 (show 0 < 6 by decide) dX5_currentResult_12 ?_
  refine z_iconst hx (n := 0) dX5_currentResult_15 ?_
  refine z_iald hx (n := 7) (z_lt0 (z_ok_sd hx) (by decide)) (z_ka7 (z_ok_sd hx) (show 0 < 6 by decide) _) rfl (by decide) dX5_currentResult_16 h (fun h => ?_)
  refine z_aload_n hx 0 dX5_currentResult_17 rfl ?_
  refine gf_X5_recording hx wf_X5_20 dX5_currentResult_18 ?_
  refine gf_X2_settings hx wf_X5_99 (show 0 < 6 by decide) dX5_currentResult_21 ?_
  refine z_iconst hx (n := 2) dX5_currentResult_24 ?_
  refine z_iald hx (n := 7) (z_lt0 (z_ok_sd hx) (by decide)) (z_ka7 (z_ok_sd hx) (show 0 < 6 by decide) _) rfl (by decide) dX5_currentResult_25 h (fun h => ?_)
  obtain ⟨⟨⟩, σ1, h26, h⟩ := z_bind_some h
  refine z_callv hx (As := [.ref (z_ad (z_g C) 0), .int (zi (σ 7 0)), .int (zi (σ 7 2))]) (k := 48) (met_X0_find (z_l C) (z_g C) (z_ok_sd hx) h26) (z_lt0 (z_ok_sd hx) (by decide)) (z_kb48 (z_ok_sd hx) _) rfl rfl cv_X5_136 (z_room hR ⟨Nat.le_of_ble_eq_true rfl, Nat.le_of_ble_eq_true rfl⟩) ⟨rfl, rfl⟩ rfl rfl (Nat.le_of_ble_eq_true rfl) dX5_currentResult_26 ?_
  refine z_aload_n hx 0 dX5_currentResult_29 rfl ?_
  refine gf_X5_result hx wf_X5_48 dX5_currentResult_30 ?_
  refine z_aload_n hx 0 dX5_currentResult_33 rfl ?_
  refine gf_X5_recording hx wf_X5_20 dX5_currentResult_34 ?_
  refine z_aload_n hx 0 dX5_currentResult_37 rfl ?_
  refine gf_X5_cutList hx wf_X5_41 dX5_currentResult_38 ?_
  obtain ⟨⟨⟩, σ2, h41, h⟩ := z_bind_some h
  refine z_callv hx (As := [.ref (z_ad (z_g C) 0), .ref (z_ad (z_g C) 48)]) (k := 54) (met_X3_build (z_l C) (z_g C) (z_ok_sd hx) h41) (z_lt0 (z_ok_sd hx) (by decide)) (z_kb54 (z_ok_sd hx) _) rfl rfl cv_X5_189 (z_room hR ⟨Nat.le_of_ble_eq_true rfl, Nat.le_of_ble_eq_true rfl⟩) ⟨rfl, rfl⟩ rfl rfl (Nat.le_of_ble_eq_true rfl) dX5_currentResult_41 ?_
  refine z_aload_n hx 0 dX5_currentResult_44 rfl ?_
  refine gf_X5_result hx wf_X5_48 dX5_currentResult_45 ?_
  cases h
  exact z_aret hx hq dX5_currentResult_48

theorem met_X5_currentResult (l : Launch) (g : zG) (hg : g.1 = 0) {σ : zS} {rr : Unit × zS} (h : f_X5_currentResult σ = some rr) : z_Met l yX5_currentResult cX5_currentResult 1 (some (.object "SpeechCleaner$Result")) rm_X5_currentResult g [.ref (z_ad (g) 62)] σ (z_QR g 54 rr.2) := by
  refine z_enter (own := RX5) (sd := 0) (lv0 := [(0, .ref (z_ad (g) 62))]) (by decide) rfl (Nat.le_of_ble_eq_true rfl) hg rfl (fun C hx hl hgC hR hn hq => ?_)
  subst hgC
  refine z_sub [0] rfl ?_
  exact w_X5_currentResult hx hn hR hq σ h
theorem dX5_length_0 : decode cX5_length 0 = .ok (.aload_n 0, 1) := by decide +kernel
theorem dX5_length_1 : decode cX5_length 1 = .ok (.invokevirtual 143, 3) := by decide +kernel
theorem dX5_length_4 : decode cX5_length 4 = .ok (.getfield 147, 3) := by decide +kernel
theorem dX5_length_7 : decode cX5_length 7 = .ok (.ireturn, 1) := by decide +kernel
abbrev rm_X5_length : Room := { frames := 6, cells := 0, slots := 0, locals := 146 }
theorem w_X5_length {C : zC} (hx : z_ok C cX5_length RX5 0) (hn : z_nL C = 1) (hR : z_R C = rm_X5_length) {rr : Int × zS} (hq : z_fin C (some .int) (z_QI (z_g C) rr.1 rr.2)) (σ : zS) (h : f_X5_length σ = some rr) : z_W C σ 0 [(0, .ref (z_ad (z_g C) 62))] [] := by
  unfold f_X5_length at h
  refine z_aload_n hx 0 dX5_length_0 rfl ?_
  obtain ⟨⟨⟩, σ1, h1, h⟩ := z_bind_some h
  refine z_callr hx (As := []) (k := 62) (met_X5_currentResult (z_l C) (z_g C) (z_ok_sd hx) h1) (z_lt0 (z_ok_sd hx) (by decide)) (z_kb62 (z_ok_sd hx) _) rfl rfl cv_X5_143 (z_room hR ⟨Nat.le_of_ble_eq_true rfl, Nat.le_of_ble_eq_true rfl⟩) ⟨rfl, rfl⟩ rfl rfl (Nat.le_of_ble_eq_true rfl) dX5_length_1 ?_
  refine gf_X3_count hx wf_X5_147 dX5_length_4 ?_
  cases h
  exact z_iret hx hq dX5_length_7

theorem met_X5_length (l : Launch) (g : zG) (hg : g.1 = 0) {σ : zS} {rr : Int × zS} (h : f_X5_length σ = some rr) : z_Met l yX5_length cX5_length 1 (some .int) rm_X5_length g [.ref (z_ad (g) 62)] σ (z_QI g rr.1 rr.2) := by
  refine z_enter (own := RX5) (sd := 0) (lv0 := [(0, .ref (z_ad (g) 62))]) (by decide) rfl (Nat.le_of_ble_eq_true rfl) hg rfl (fun C hx hl hgC hR hn hq => ?_)
  subst hgC
  refine z_sub [0] rfl ?_
  exact w_X5_length hx hn hR hq σ h
theorem dX5_heard_0 : decode cX5_heard 0 = .ok (.aload_n 0, 1) := by decide +kernel
theorem dX5_heard_1 : decode cX5_heard 1 = .ok (.invokevirtual 143, 3) := by decide +kernel
theorem dX5_heard_4 : decode cX5_heard 4 = .ok (.astore_n 3, 1) := by decide +kernel
theorem dX5_heard_5 : decode cX5_heard 5 = .ok (.iload_n 1, 1) := by decide +kernel
theorem dX5_heard_6 : decode cX5_heard 6 = .ok (.ifCond .lt 20, 3) := by decide +kernel
theorem dX5_heard_9 : decode cX5_heard 9 = .ok (.iload_n 1, 1) := by decide +kernel
theorem dX5_heard_10 : decode cX5_heard 10 = .ok (.aload_n 3, 1) := by decide +kernel
theorem dX5_heard_11 : decode cX5_heard 11 = .ok (.getfield 147, 3) := by decide +kernel
theorem dX5_heard_14 : decode cX5_heard 14 = .ok (.if_icmp .ge 12, 3) := by decide +kernel
theorem dX5_heard_17 : decode cX5_heard 17 = .ok (.iload_n 2, 1) := by decide +kernel
theorem dX5_heard_18 : decode cX5_heard 18 = .ok (.ifCond .lt 8, 3) := by decide +kernel
theorem dX5_heard_21 : decode cX5_heard 21 = .ok (.iload_n 2, 1) := by decide +kernel
theorem dX5_heard_22 : decode cX5_heard 22 = .ok (.iconst 1, 1) := by decide +kernel
theorem dX5_heard_23 : decode cX5_heard 23 = .ok (.if_icmp .le 5, 3) := by decide +kernel
theorem dX5_heard_26 : decode cX5_heard 26 = .ok (.iconst (-1), 1) := by decide +kernel
theorem dX5_heard_27 : decode cX5_heard 27 = .ok (.ireturn, 1) := by decide +kernel
theorem dX5_heard_28 : decode cX5_heard 28 = .ok (.iload_n 2, 1) := by decide +kernel
theorem dX5_heard_29 : decode cX5_heard 29 = .ok (.ifCond .ne 12, 3) := by decide +kernel
theorem dX5_heard_32 : decode cX5_heard 32 = .ok (.aload_n 3, 1) := by decide +kernel
theorem dX5_heard_33 : decode cX5_heard 33 = .ok (.getfield 148, 3) := by decide +kernel
theorem dX5_heard_36 : decode cX5_heard 36 = .ok (.iload_n 1, 1) := by decide +kernel
theorem dX5_heard_37 : decode cX5_heard 37 = .ok (.iaload, 1) := by decide +kernel
theorem dX5_heard_38 : decode cX5_heard 38 = .ok (.goto 9, 3) := by decide +kernel
theorem dX5_heard_41 : decode cX5_heard 41 = .ok (.aload_n 3, 1) := by decide +kernel
theorem dX5_heard_42 : decode cX5_heard 42 = .ok (.getfield 151, 3) := by decide +kernel
theorem dX5_heard_45 : decode cX5_heard 45 = .ok (.iload_n 1, 1) := by decide +kernel
theorem dX5_heard_46 : decode cX5_heard 46 = .ok (.iaload, 1) := by decide +kernel
theorem dX5_heard_47 : decode cX5_heard 47 = .ok (.ireturn, 1) := by decide +kernel
abbrev rm_X5_heard : Room := { frames := 6, cells := 0, slots := 0, locals := 146 }
theorem w_X5_heard_b47 {C : zC} (hx : z_ok C cX5_heard RX5 0) (hn : z_nL C = 4) (hR : z_R C = rm_X5_heard) {rr : Int × zS} (hq : z_fin C (some .int) (z_QI (z_g C) rr.1 rr.2)) (σ : zS) (s0 : Int) (h : f_X5_heard_b47 σ s0 = some rr) : z_W C σ 47 [] [.int (zi s0)] := by
  unfold f_X5_heard_b47 at h
  cases h
  exact z_iret hx hq dX5_heard_47

theorem w_X5_heard_b26 {C : zC} (hx : z_ok C cX5_heard RX5 0) (hn : z_nL C = 4) (hR : z_R C = rm_X5_heard) {rr : Int × zS} (hq : z_fin C (some .int) (z_QI (z_g C) rr.1 rr.2)) (σ : zS) (h : f_X5_heard_b26 σ = some rr) : z_W C σ 26 [] [] := by
  unfold f_X5_heard_b26 at h
  refine z_iconst hx (n := (-1)) dX5_heard_26 ?_
  cases h
  exact z_iret hx hq dX5_heard_27

theorem w_X5_heard {C : zC} (hx : z_ok C cX5_heard RX5 0) (hn : z_nL C = 4) (hR : z_R C = rm_X5_heard) {rr : Int × zS} (hq : z_fin C (some .int) (z_QI (z_g C) rr.1 rr.2)) (σ : zS) (x1 : Int) (x2 : Int) (h : f_X5_heard σ x1 x2 = some rr) : z_W C σ 0 [(0, .ref (z_ad (z_g C) 62)), (1, .int (zi x1)), (2, .int (zi x2))] [] := by
  unfold f_X5_heard at h
  refine z_aload_n hx 0 dX5_heard_0 rfl ?_
  obtain ⟨⟨⟩, σ1, h1, h⟩ := z_bind_some h
  refine z_callr hx (As := []) (k := 62) (met_X5_currentResult (z_l C) (z_g C) (z_ok_sd hx) h1) (z_lt0 (z_ok_sd hx) (by decide)) (z_kb62 (z_ok_sd hx) _) rfl rfl cv_X5_143 (z_room hR ⟨Nat.le_of_ble_eq_true rfl, Nat.le_of_ble_eq_true rfl⟩) ⟨rfl, rfl⟩ rfl rfl (Nat.le_of_ble_eq_true rfl) dX5_heard_1 ?_
  refine z_astore_n hx hn (lv' := [(3, .ref (z_ad (z_g C) 54)), (0, .ref (z_ad (z_g C) 62)), (1, .int (zi x1)), (2, .int (zi x2))]) dX5_heard_4 (by decide) rfl ?_
  refine z_iload_n hx 2 dX5_heard_5 rfl ?_
  refine z_if_lt hx (tgt := 26) dX5_heard_6 (by decide) h (fun h => h) (fun hc h => ?_) (fun hc h => ?_)
  · refine z_sub [] rfl ?_
    exact w_X5_heard_b26 hx hn hR hq σ1 h
  · refine z_iload_n hx 2 dX5_heard_9 rfl ?_
    refine z_aload_n hx 0 dX5_heard_10 rfl ?_
    refine gf_X3_count hx wf_X5_147 dX5_heard_11 ?_
    refine z_icmp_ge hx (tgt := 26) dX5_heard_14 (by decide) h (fun h => h) (fun hc h => ?_) (fun hc h => ?_)
    · refine z_sub [] rfl ?_
      exact w_X5_heard_b26 hx hn hR hq σ1 h
    · refine z_iload_n hx 3 dX5_heard_17 rfl ?_
      refine z_if_lt hx (tgt := 26) dX5_heard_18 (by decide) h (fun h => h) (fun hc h => ?_) (fun hc h => ?_)
      · refine z_sub [] rfl ?_
        exact w_X5_heard_b26 hx hn hR hq σ1 h
      · refine z_iload_n hx 3 dX5_heard_21 rfl ?_
        refine z_iconst hx (n := 1) dX5_heard_22 ?_
        refine z_icmp_le hx (tgt := 28) dX5_heard_23 (by decide) h (fun h => ⟨h, by decide⟩) (fun hc h => ?_) (fun hc h => ?_)
        · refine z_iload_n hx 3 dX5_heard_28 rfl ?_
          refine z_if_ne hx (tgt := 41) dX5_heard_29 (by decide) h (fun h => h) (fun hc h => ?_) (fun hc h => ?_)
          · refine z_aload_n hx 0 dX5_heard_41 rfl ?_
            refine gf_X3_levels hx wf_X5_151 dX5_heard_42 ?_
            refine z_iload_n hx 2 dX5_heard_45 rfl ?_
            refine z_iald hx (n := 200) (z_lt0 (z_ok_sd hx) (by decide)) (z_kb56 (z_ok_sd hx) _) rfl (by decide) dX5_heard_46 h (fun h => ?_)
            refine z_sub [] rfl ?_
            exact w_X5_heard_b47 hx hn hR hq σ1 (σ1 56 x1) h
          · refine z_aload_n hx 0 dX5_heard_32 rfl ?_
            refine gf_X3_sources hx wf_X5_148 dX5_heard_33 ?_
            refine z_iload_n hx 2 dX5_heard_36 rfl ?_
            refine z_iald hx (n := 200) (z_lt0 (z_ok_sd hx) (by decide)) (z_kb55 (z_ok_sd hx) _) rfl (by decide) dX5_heard_37 h (fun h => ?_)
            refine z_goto hx (tgt := 47) dX5_heard_38 (by decide) ?_
            refine z_sub [] rfl ?_
            exact w_X5_heard_b47 hx hn hR hq σ1 (σ1 55 x1) h
        · refine z_sub [] rfl ?_
          exact w_X5_heard_b26 hx hn hR hq σ1 h

theorem met_X5_heard (l : Launch) (g : zG) (hg : g.1 = 0) {σ : zS} {x1 : Int} {x2 : Int} {rr : Int × zS} (h : f_X5_heard σ x1 x2 = some rr) : z_Met l yX5_heard cX5_heard 4 (some .int) rm_X5_heard g [.ref (z_ad (g) 62), .int (zi x1), .int (zi x2)] σ (z_QI g rr.1 rr.2) := by
  refine z_enter (own := RX5) (sd := 0) (lv0 := [(0, .ref (z_ad (g) 62)), (1, .int (zi x1)), (2, .int (zi x2))]) (by decide) rfl (Nat.le_of_ble_eq_true rfl) hg rfl (fun C hx hl hgC hR hn hq => ?_)
  subst hgC
  refine z_sub [0, 1, 2] rfl ?_
  exact w_X5_heard hx hn hR hq σ x1 x2 h
theorem dX5_where_0 : decode cX5_where 0 = .ok (.aload_n 0, 1) := by decide +kernel
theorem dX5_where_1 : decode cX5_where 1 = .ok (.getfield 20, 3) := by decide +kernel
theorem dX5_where_4 : decode cX5_where 4 = .ok (.iload_n 1, 1) := by decide +kernel
theorem dX5_where_5 : decode cX5_where 5 = .ok (.invokevirtual 114, 3) := by decide +kernel
theorem dX5_where_8 : decode cX5_where 8 = .ok (.ifCond .ne 5, 3) := by decide +kernel
theorem dX5_where_11 : decode cX5_where 11 = .ok (.iconst (-1), 1) := by decide +kernel
theorem dX5_where_12 : decode cX5_where 12 = .ok (.ireturn, 1) := by decide +kernel
theorem dX5_where_13 : decode cX5_where 13 = .ok (.aload_n 0, 1) := by decide +kernel
theorem dX5_where_14 : decode cX5_where 14 = .ok (.invokevirtual 143, 3) := by decide +kernel
theorem dX5_where_17 : decode cX5_where 17 = .ok (.iload_n 1, 1) := by decide +kernel
theorem dX5_where_18 : decode cX5_where 18 = .ok (.invokevirtual 154, 3) := by decide +kernel
theorem dX5_where_21 : decode cX5_where 21 = .ok (.ireturn, 1) := by decide +kernel
abbrev rm_X5_where : Room := { frames := 6, cells := 0, slots := 0, locals := 146 }
theorem w_X5_where {C : zC} (hx : z_ok C cX5_where RX5 0) (hn : z_nL C = 2) (hR : z_R C = rm_X5_where) {rr : Int × zS} (hq : z_fin C (some .int) (z_QI (z_g C) rr.1 rr.2)) (σ : zS) (x1 : Int) (h : f_X5_where σ x1 = some rr) : z_W C σ 0 [(0, .ref (z_ad (z_g C) 62)), (1, .int (zi x1))] [] := by
  unfold f_X5_where at h
  refine z_aload_n hx 0 dX5_where_0 rfl ?_
  refine gf_X5_recording hx wf_X5_20 dX5_where_1 ?_
  refine z_iload_n hx 1 dX5_where_4 rfl ?_
  obtain ⟨r2, σ1, h5, h⟩ := z_bind_some h
  refine z_calli hx (As := [.int (zi x1)]) (k := 0) (met_X2_hasFrame (z_l C) (z_g C) (z_ok_sd hx) (show 0 < 6 by decide) h5) (z_lt0 (z_ok_sd hx) (by decide)) (z_ka0 (z_ok_sd hx) (show 0 < 6 by decide) _) rfl rfl cv_X5_114 (z_room hR ⟨Nat.le_of_ble_eq_true rfl, Nat.le_of_ble_eq_true rfl⟩) ⟨rfl, rfl⟩ rfl rfl (Nat.le_of_ble_eq_true rfl) dX5_where_5 ?_
  refine z_if_ne hx (tgt := 13) dX5_where_8 (by decide) h (fun h => h) (fun hc h => ?_) (fun hc h => ?_)
  · refine z_aload_n hx 0 dX5_where_13 rfl ?_
    obtain ⟨⟨⟩, σ3, h14, h⟩ := z_bind_some h
    refine z_callr hx (As := []) (k := 62) (met_X5_currentResult (z_l C) (z_g C) (z_ok_sd hx) h14) (z_lt0 (z_ok_sd hx) (by decide)) (z_kb62 (z_ok_sd hx) _) rfl rfl cv_X5_143 (z_room hR ⟨Nat.le_of_ble_eq_true rfl, Nat.le_of_ble_eq_true rfl⟩) ⟨rfl, rfl⟩ rfl rfl (Nat.le_of_ble_eq_true rfl) dX5_where_14 ?_
    refine z_iload_n hx 1 dX5_where_17 rfl ?_
    obtain ⟨r5, σ4, h18, h⟩ := z_bind_some h
    refine z_calli hx (As := [.int (zi x1)]) (k := 54) (met_X3_placeOfSource (z_l C) (z_g C) (z_ok_sd hx) h18) (z_lt0 (z_ok_sd hx) (by decide)) (z_kb54 (z_ok_sd hx) _) rfl rfl cv_X5_154 (z_room hR ⟨Nat.le_of_ble_eq_true rfl, Nat.le_of_ble_eq_true rfl⟩) ⟨rfl, rfl⟩ rfl rfl (Nat.le_of_ble_eq_true rfl) dX5_where_18 ?_
    cases h
    exact z_iret hx hq dX5_where_21
  · refine z_iconst hx (n := (-1)) dX5_where_11 ?_
    cases h
    exact z_iret hx hq dX5_where_12

theorem met_X5_where (l : Launch) (g : zG) (hg : g.1 = 0) {σ : zS} {x1 : Int} {rr : Int × zS} (h : f_X5_where σ x1 = some rr) : z_Met l yX5_where cX5_where 2 (some .int) rm_X5_where g [.ref (z_ad (g) 62), .int (zi x1)] σ (z_QI g rr.1 rr.2) := by
  refine z_enter (own := RX5) (sd := 0) (lv0 := [(0, .ref (z_ad (g) 62)), (1, .int (zi x1))]) (by decide) rfl (Nat.le_of_ble_eq_true rfl) hg rfl (fun C hx hl hgC hR hn hq => ?_)
  subst hgC
  refine z_sub [0, 1] rfl ?_
  exact w_X5_where hx hn hR hq σ x1 h
theorem dX5_clicks_0 : decode cX5_clicks 0 = .ok (.iload_n 1, 1) := by decide +kernel
theorem dX5_clicks_1 : decode cX5_clicks 1 = .ok (.ifCond .lt 9, 3) := by decide +kernel
theorem dX5_clicks_4 : decode cX5_clicks 4 = .ok (.iload_n 1, 1) := by decide +kernel
theorem dX5_clicks_5 : decode cX5_clicks 5 = .ok (.bipush 9, 2) := by decide +kernel
theorem dX5_clicks_7 : decode cX5_clicks 7 = .ok (.if_icmp .le 5, 3) := by decide +kernel
theorem dX5_clicks_10 : decode cX5_clicks 10 = .ok (.iconst (-1), 1) := by decide +kernel
theorem dX5_clicks_11 : decode cX5_clicks 11 = .ok (.ireturn, 1) := by decide +kernel
theorem dX5_clicks_12 : decode cX5_clicks 12 = .ok (.aload_n 0, 1) := by decide +kernel
theorem dX5_clicks_13 : decode cX5_clicks 13 = .ok (.invokevirtual 143, 3) := by decide +kernel
theorem dX5_clicks_16 : decode cX5_clicks 16 = .ok (.iload_n 1, 1) := by decide +kernel
theorem dX5_clicks_17 : decode cX5_clicks 17 = .ok (.invokevirtual 157, 3) := by decide +kernel
theorem dX5_clicks_20 : decode cX5_clicks 20 = .ok (.ireturn, 1) := by decide +kernel
abbrev rm_X5_clicks : Room := { frames := 6, cells := 0, slots := 0, locals := 146 }
theorem w_X5_clicks_b10 {C : zC} (hx : z_ok C cX5_clicks RX5 0) (hn : z_nL C = 2) (hR : z_R C = rm_X5_clicks) {rr : Int × zS} (hq : z_fin C (some .int) (z_QI (z_g C) rr.1 rr.2)) (σ : zS) (h : f_X5_clicks_b10 σ = some rr) : z_W C σ 10 [] [] := by
  unfold f_X5_clicks_b10 at h
  refine z_iconst hx (n := (-1)) dX5_clicks_10 ?_
  cases h
  exact z_iret hx hq dX5_clicks_11

theorem w_X5_clicks {C : zC} (hx : z_ok C cX5_clicks RX5 0) (hn : z_nL C = 2) (hR : z_R C = rm_X5_clicks) {rr : Int × zS} (hq : z_fin C (some .int) (z_QI (z_g C) rr.1 rr.2)) (σ : zS) (x1 : Int) (h : f_X5_clicks σ x1 = some rr) : z_W C σ 0 [(0, .ref (z_ad (z_g C) 62)), (1, .int (zi x1))] [] := by
  unfold f_X5_clicks at h
  refine z_iload_n hx 1 dX5_clicks_0 rfl ?_
  refine z_if_lt hx (tgt := 10) dX5_clicks_1 (by decide) h (fun h => h) (fun hc h => ?_) (fun hc h => ?_)
  · refine z_sub [] rfl ?_
    exact w_X5_clicks_b10 hx hn hR hq σ h
  · refine z_iload_n hx 1 dX5_clicks_4 rfl ?_
    refine z_bipush hx (n := 9) dX5_clicks_5 rfl ?_
    refine z_icmp_le hx (tgt := 12) dX5_clicks_7 (by decide) h (fun h => ⟨h, by decide⟩) (fun hc h => ?_) (fun hc h => ?_)
    · refine z_aload_n hx 0 dX5_clicks_12 rfl ?_
      obtain ⟨⟨⟩, σ1, h13, h⟩ := z_bind_some h
      refine z_callr hx (As := []) (k := 62) (met_X5_currentResult (z_l C) (z_g C) (z_ok_sd hx) h13) (z_lt0 (z_ok_sd hx) (by decide)) (z_kb62 (z_ok_sd hx) _) rfl rfl cv_X5_143 (z_room hR ⟨Nat.le_of_ble_eq_true rfl, Nat.le_of_ble_eq_true rfl⟩) ⟨rfl, rfl⟩ rfl rfl (Nat.le_of_ble_eq_true rfl) dX5_clicks_13 ?_
      refine z_iload_n hx 1 dX5_clicks_16 rfl ?_
      obtain ⟨r3, σ2, h17, h⟩ := z_bind_some h
      refine z_calli hx (As := [.int (zi x1)]) (k := 54) (met_X3_stepsGreaterThan (z_l C) (z_g C) (z_ok_sd hx) h17) (z_lt0 (z_ok_sd hx) (by decide)) (z_kb54 (z_ok_sd hx) _) rfl rfl cv_X5_157 (z_room hR ⟨Nat.le_of_ble_eq_true rfl, Nat.le_of_ble_eq_true rfl⟩) ⟨rfl, rfl⟩ rfl rfl (Nat.le_of_ble_eq_true rfl) dX5_clicks_17 ?_
      cases h
      exact z_iret hx hq dX5_clicks_20
    · refine z_sub [] rfl ?_
      exact w_X5_clicks_b10 hx hn hR hq σ h

theorem met_X5_clicks (l : Launch) (g : zG) (hg : g.1 = 0) {σ : zS} {x1 : Int} {rr : Int × zS} (h : f_X5_clicks σ x1 = some rr) : z_Met l yX5_clicks cX5_clicks 2 (some .int) rm_X5_clicks g [.ref (z_ad (g) 62), .int (zi x1)] σ (z_QI g rr.1 rr.2) := by
  refine z_enter (own := RX5) (sd := 0) (lv0 := [(0, .ref (z_ad (g) 62)), (1, .int (zi x1))]) (by decide) rfl (Nat.le_of_ble_eq_true rfl) hg rfl (fun C hx hl hgC hR hn hq => ?_)
  subst hgC
  refine z_sub [0, 1] rfl ?_
  exact w_X5_clicks hx hn hR hq σ x1 h
theorem dX5_silence_0 : decode cX5_silence 0 = .ok (.aload_n 0, 1) := by decide +kernel
theorem dX5_silence_1 : decode cX5_silence 1 = .ok (.invokevirtual 143, 3) := by decide +kernel
theorem dX5_silence_4 : decode cX5_silence 4 = .ok (.aload_n 0, 1) := by decide +kernel
theorem dX5_silence_5 : decode cX5_silence 5 = .ok (.getfield 20, 3) := by decide +kernel
theorem dX5_silence_8 : decode cX5_silence 8 = .ok (.getfield 99, 3) := by decide +kernel
theorem dX5_silence_11 : decode cX5_silence 11 = .ok (.iconst 1, 1) := by decide +kernel
theorem dX5_silence_12 : decode cX5_silence 12 = .ok (.iaload, 1) := by decide +kernel
theorem dX5_silence_13 : decode cX5_silence 13 = .ok (.invokevirtual 163, 3) := by decide +kernel
theorem dX5_silence_16 : decode cX5_silence 16 = .ok (.ireturn, 1) := by decide +kernel
abbrev rm_X5_silence : Room := { frames := 6, cells := 0, slots := 0, locals := 146 }
theorem w_X5_silence {C : zC} (hx : z_ok C cX5_silence RX5 0) (hn : z_nL C = 1) (hR : z_R C = rm_X5_silence) {rr : Int × zS} (hq : z_fin C (some .int) (z_QI (z_g C) rr.1 rr.2)) (σ : zS) (h : f_X5_silence σ = some rr) : z_W C σ 0 [(0, .ref (z_ad (z_g C) 62))] [] := by
  unfold f_X5_silence at h
  refine z_aload_n hx 0 dX5_silence_0 rfl ?_
  obtain ⟨⟨⟩, σ1, h1, h⟩ := z_bind_some h
  refine z_callr hx (As := []) (k := 62) (met_X5_currentResult (z_l C) (z_g C) (z_ok_sd hx) h1) (z_lt0 (z_ok_sd hx) (by decide)) (z_kb62 (z_ok_sd hx) _) rfl rfl cv_X5_143 (z_room hR ⟨Nat.le_of_ble_eq_true rfl, Nat.le_of_ble_eq_true rfl⟩) ⟨rfl, rfl⟩ rfl rfl (Nat.le_of_ble_eq_true rfl) dX5_silence_1 ?_
  refine z_aload_n hx 0 dX5_silence_4 rfl ?_
  refine gf_X5_recording hx wf_X5_20 dX5_silence_5 ?_
  refine gf_X2_settings hx wf_X5_99 (show 0 < 6 by decide) dX5_silence_8 ?_
  refine z_iconst hx (n := 1) dX5_silence_11 ?_
  refine z_iald hx (n := 7) (z_lt0 (z_ok_sd hx) (by decide)) (z_ka7 (z_ok_sd hx) (show 0 < 6 by decide) _) rfl (by decide) dX5_silence_12 h (fun h => ?_)
  obtain ⟨r3, σ2, h13, h⟩ := z_bind_some h
  refine z_calli hx (As := [.int (zi (σ1 7 1))]) (k := 54) (met_X3_longestStretchUpTo (z_l C) (z_g C) (z_ok_sd hx) h13) (z_lt0 (z_ok_sd hx) (by decide)) (z_kb54 (z_ok_sd hx) _) rfl rfl cv_X5_163 (z_room hR ⟨Nat.le_of_ble_eq_true rfl, Nat.le_of_ble_eq_true rfl⟩) ⟨rfl, rfl⟩ rfl rfl (Nat.le_of_ble_eq_true rfl) dX5_silence_13 ?_
  cases h
  exact z_iret hx hq dX5_silence_16

theorem met_X5_silence (l : Launch) (g : zG) (hg : g.1 = 0) {σ : zS} {rr : Int × zS} (h : f_X5_silence σ = some rr) : z_Met l yX5_silence cX5_silence 1 (some .int) rm_X5_silence g [.ref (z_ad (g) 62)] σ (z_QI g rr.1 rr.2) := by
  refine z_enter (own := RX5) (sd := 0) (lv0 := [(0, .ref (z_ad (g) 62))]) (by decide) rfl (Nat.le_of_ble_eq_true rfl) hg rfl (fun C hx hl hgC hR hn hq => ?_)
  subst hgC
  refine z_sub [0] rfl ?_
  exact w_X5_silence hx hn hR hq σ h
theorem dX5_undo_0 : decode cX5_undo 0 = .ok (.aload_n 0, 1) := by decide +kernel
theorem dX5_undo_1 : decode cX5_undo 1 = .ok (.getfield 27, 3) := by decide +kernel
theorem dX5_undo_4 : decode cX5_undo 4 = .ok (.getfield 166, 3) := by decide +kernel
theorem dX5_undo_7 : decode cX5_undo 7 = .ok (.ifCond .ne 6, 3) := by decide +kernel
theorem dX5_undo_10 : decode cX5_undo 10 = .ok (.bipush (-9), 2) := by decide +kernel
theorem dX5_undo_12 : decode cX5_undo 12 = .ok (.ireturn, 1) := by decide +kernel
theorem dX5_undo_13 : decode cX5_undo 13 = .ok (.aload_n 0, 1) := by decide +kernel
theorem dX5_undo_14 : decode cX5_undo 14 = .ok (.getfield 27, 3) := by decide +kernel
theorem dX5_undo_17 : decode cX5_undo 17 = .ok (.aload_n 0, 1) := by decide +kernel
theorem dX5_undo_18 : decode cX5_undo 18 = .ok (.getfield 20, 3) := by decide +kernel
theorem dX5_undo_21 : decode cX5_undo 21 = .ok (.invokevirtual 167, 3) := by decide +kernel
theorem dX5_undo_24 : decode cX5_undo 24 = .ok (.aload_n 0, 1) := by decide +kernel
theorem dX5_undo_25 : decode cX5_undo 25 = .ok (.getfield 27, 3) := by decide +kernel
theorem dX5_undo_28 : decode cX5_undo 28 = .ok (.getfield 166, 3) := by decide +kernel
theorem dX5_undo_31 : decode cX5_undo 31 = .ok (.ireturn, 1) := by decide +kernel
abbrev rm_X5_undo : Room := { frames := 4, cells := 0, slots := 0, locals := 124 }
theorem w_X5_undo {C : zC} (hx : z_ok C cX5_undo RX5 0) (hn : z_nL C = 1) (hR : z_R C = rm_X5_undo) {rr : Int × zS} (hq : z_fin C (some .int) (z_QI (z_g C) rr.1 rr.2)) (σ : zS) (h : f_X5_undo σ = some rr) : z_W C σ 0 [(0, .ref (z_ad (z_g C) 62))] [] := by
  unfold f_X5_undo at h
  refine z_aload_n hx 0 dX5_undo_0 rfl ?_
  refine gf_X5_history hx wf_X5_27 dX5_undo_1 ?_
  refine gf_X1_count hx wf_X5_166 dX5_undo_4 ?_
  refine z_if_ne hx (tgt := 13) dX5_undo_7 (by decide) h (fun h => h) (fun hc h => ?_) (fun hc h => ?_)
  · refine z_aload_n hx 0 dX5_undo_13 rfl ?_
    refine gf_X5_history hx wf_X5_27 dX5_undo_14 ?_
    refine z_aload_n hx 0 dX5_undo_17 rfl ?_
    refine gf_X5_recording hx wf_X5_20 dX5_undo_18 ?_
    obtain ⟨⟨⟩, σ1, h21, h⟩ := z_bind_some h
    refine z_callv hx (As := [.ref (z_ad (z_g C) 0)]) (k := 60) (met_X1_restoreLatest (z_l C) (z_g C) (z_ok_sd hx) (show 0 < 6 by decide) h21) (z_lt0 (z_ok_sd hx) (by decide)) (z_kb60 (z_ok_sd hx) _) rfl rfl cv_X5_167 (z_room hR ⟨Nat.le_of_ble_eq_true rfl, Nat.le_of_ble_eq_true rfl⟩) ⟨rfl, rfl⟩ rfl rfl (Nat.le_of_ble_eq_true rfl) dX5_undo_21 ?_
    refine z_aload_n hx 0 dX5_undo_24 rfl ?_
    refine gf_X5_history hx wf_X5_27 dX5_undo_25 ?_
    refine gf_X1_count hx wf_X5_166 dX5_undo_28 ?_
    cases h
    exact z_iret hx hq dX5_undo_31
  · refine z_bipush hx (n := (-9)) dX5_undo_10 rfl ?_
    cases h
    exact z_iret hx hq dX5_undo_12

theorem met_X5_undo (l : Launch) (g : zG) (hg : g.1 = 0) {σ : zS} {rr : Int × zS} (h : f_X5_undo σ = some rr) : z_Met l yX5_undo cX5_undo 1 (some .int) rm_X5_undo g [.ref (z_ad (g) 62)] σ (z_QI g rr.1 rr.2) := by
  refine z_enter (own := RX5) (sd := 0) (lv0 := [(0, .ref (z_ad (g) 62))]) (by decide) rfl (Nat.le_of_ble_eq_true rfl) hg rfl (fun C hx hl hgC hR hn hq => ?_)
  subst hgC
  refine z_sub [0] rfl ?_
  exact w_X5_undo hx hn hR hq σ h
theorem dX5_withMarks_0 : decode cX5_withMarks 0 = .ok (.lload_n 1, 1) := by decide +kernel
theorem dX5_withMarks_1 : decode cX5_withMarks 1 = .ok (.lstore 4, 2) := by decide +kernel
theorem dX5_withMarks_3 : decode cX5_withMarks 3 = .ok (.iconst 0, 1) := by decide +kernel
theorem dX5_withMarks_4 : decode cX5_withMarks 4 = .ok (.istore 6, 2) := by decide +kernel
theorem dX5_withMarks_6 : decode cX5_withMarks 6 = .ok (.iload 6, 2) := by decide +kernel
theorem dX5_withMarks_8 : decode cX5_withMarks 8 = .ok (.aload_n 0, 1) := by decide +kernel
theorem dX5_withMarks_9 : decode cX5_withMarks 9 = .ok (.getfield 20, 3) := by decide +kernel
theorem dX5_withMarks_12 : decode cX5_withMarks 12 = .ok (.getfield 78, 3) := by decide +kernel
theorem dX5_withMarks_15 : decode cX5_withMarks 15 = .ok (.if_icmp .ge 61, 3) := by decide +kernel
theorem dX5_withMarks_18 : decode cX5_withMarks 18 = .ok (.iconst 0, 1) := by decide +kernel
theorem dX5_withMarks_19 : decode cX5_withMarks 19 = .ok (.istore 7, 2) := by decide +kernel
theorem dX5_withMarks_21 : decode cX5_withMarks 21 = .ok (.iload 7, 2) := by decide +kernel
theorem dX5_withMarks_23 : decode cX5_withMarks 23 = .ok (.iconst 5, 1) := by decide +kernel
theorem dX5_withMarks_24 : decode cX5_withMarks 24 = .ok (.if_icmp .ge 30, 3) := by decide +kernel
theorem dX5_withMarks_27 : decode cX5_withMarks 27 = .ok (.ldc2_w 172, 3) := by decide +kernel
theorem dX5_withMarks_30 : decode cX5_withMarks 30 = .ok (.lload 4, 2) := by decide +kernel
theorem dX5_withMarks_32 : decode cX5_withMarks 32 = .ok (.lmul, 1) := by decide +kernel
theorem dX5_withMarks_33 : decode cX5_withMarks 33 = .ok (.aload_n 0, 1) := by decide +kernel
theorem dX5_withMarks_34 : decode cX5_withMarks 34 = .ok (.getfield 20, 3) := by decide +kernel
theorem dX5_withMarks_37 : decode cX5_withMarks 37 = .ok (.iload 6, 2) := by decide +kernel
theorem dX5_withMarks_39 : decode cX5_withMarks 39 = .ok (.iload 7, 2) := by decide +kernel
theorem dX5_withMarks_41 : decode cX5_withMarks 41 = .ok (.invokevirtual 110, 3) := by decide +kernel
theorem dX5_withMarks_44 : decode cX5_withMarks 44 = .ok (.i2l, 1) := by decide +kernel
theorem dX5_withMarks_45 : decode cX5_withMarks 45 = .ok (.ladd, 1) := by decide +kernel
theorem dX5_withMarks_46 : decode cX5_withMarks 46 = .ok (.lstore 4, 2) := by decide +kernel
theorem dX5_withMarks_48 : decode cX5_withMarks 48 = .ok (.iinc 7 1, 3) := by decide +kernel
theorem dX5_withMarks_51 : decode cX5_withMarks 51 = .ok (.goto (-30), 3) := by decide +kernel
theorem dX5_withMarks_54 : decode cX5_withMarks 54 = .ok (.ldc2_w 172, 3) := by decide +kernel
theorem dX5_withMarks_57 : decode cX5_withMarks 57 = .ok (.lload 4, 2) := by decide +kernel
theorem dX5_withMarks_59 : decode cX5_withMarks 59 = .ok (.lmul, 1) := by decide +kernel
theorem dX5_withMarks_60 : decode cX5_withMarks 60 = .ok (.aload_n 3, 1) := by decide +kernel
theorem dX5_withMarks_61 : decode cX5_withMarks 61 = .ok (.iload 6, 2) := by decide +kernel
theorem dX5_withMarks_63 : decode cX5_withMarks 63 = .ok (.invokevirtual 106, 3) := by decide +kernel
theorem dX5_withMarks_66 : decode cX5_withMarks 66 = .ok (.i2l, 1) := by decide +kernel
theorem dX5_withMarks_67 : decode cX5_withMarks 67 = .ok (.ladd, 1) := by decide +kernel
theorem dX5_withMarks_68 : decode cX5_withMarks 68 = .ok (.lstore 4, 2) := by decide +kernel
theorem dX5_withMarks_70 : decode cX5_withMarks 70 = .ok (.iinc 6 1, 3) := by decide +kernel
theorem dX5_withMarks_73 : decode cX5_withMarks 73 = .ok (.goto (-67), 3) := by decide +kernel
theorem dX5_withMarks_76 : decode cX5_withMarks 76 = .ok (.lload 4, 2) := by decide +kernel
theorem dX5_withMarks_78 : decode cX5_withMarks 78 = .ok (.lreturn, 1) := by decide +kernel
abbrev rm_X5_withMarks : Room := { frames := 2, cells := 0, slots := 0, locals := 43 }
theorem w_X5_withMarks_b21 {C : zC} (hx : z_ok C cX5_withMarks RX5 0) (hn : z_nL C = 8) (hR : z_R C = rm_X5_withMarks) {rr : Int × zS} (hq : z_fin C (some .long) (z_QL (z_g C) rr.1 rr.2)) {K6 : zS → Int → Int → Option (Int × zS)} (hK6 : ∀ (σ : zS) (y4 : Int) (x6 : Int) , K6 σ y4 x6 = some rr → z_W C σ 6 [(0, .ref (z_ad (z_g C) 62)), (3, .ref (z_ad (z_g C) 48)), (4, .long (zl y4)), (6, .int (zi x6))] []) {K21 : zS → Int → Int → Int → Option (Int × zS)} (hK21 : ∀ (σ : zS) (y4 : Int) (x6 : Int) (x7 : Int) , K21 σ y4 x6 x7 = some rr → z_W C σ 21 [(0, .ref (z_ad (z_g C) 62)), (3, .ref (z_ad (z_g C) 48)), (4, .long (zl y4)), (6, .int (zi x6)), (7, .int (zi x7))] []) (σ : zS) (y4 : Int) (x6 : Int) (x7 : Int) (h : f_X5_withMarks_b21 K6 K21 σ y4 x6 x7 = some rr) : z_W C σ 21 [(0, .ref (z_ad (z_g C) 62)), (3, .ref (z_ad (z_g C) 48)), (4, .long (zl y4)), (6, .int (zi x6)), (7, .int (zi x7))] [] := by
  unfold f_X5_withMarks_b21 at h
  refine z_iload hx 4 dX5_withMarks_21 rfl ?_
  refine z_iconst hx (n := 5) dX5_withMarks_23 ?_
  refine z_icmp_ge hx (tgt := 54) dX5_withMarks_24 (by decide) h (fun h => ⟨h, by decide⟩) (fun hc h => ?_) (fun hc h => ?_)
  · refine z_ldc2 hx (n := 31) wk_X5_172 dX5_withMarks_54 ?_
    refine z_lload hx 2 dX5_withMarks_57 rfl ?_
    refine z_lmul hx dX5_withMarks_59 ?_
    refine z_aload_n hx 1 dX5_withMarks_60 rfl ?_
    refine z_iload hx 3 dX5_withMarks_61 rfl ?_
    obtain ⟨r2, σ1, h63, h⟩ := z_bind_some h
    refine z_calli hx (As := [.int (zi x6)]) (k := 48) (met_X0_cutOfMark (z_l C) (z_g C) (z_ok_sd hx) h63) (z_lt0 (z_ok_sd hx) (by decide)) (z_kb48 (z_ok_sd hx) _) rfl rfl cv_X5_106 (z_room hR ⟨Nat.le_of_ble_eq_true rfl, Nat.le_of_ble_eq_true rfl⟩) ⟨rfl, rfl⟩ rfl rfl (Nat.le_of_ble_eq_true rfl) dX5_withMarks_63 ?_
    refine z_i2l hx dX5_withMarks_66 h (fun h => ?_)
    refine z_ladd hx dX5_withMarks_67 ?_
    refine z_lstore hx hn (lv' := [(4, .long (zl ((31 * y4) + r2))), (0, .ref (z_ad (z_g C) 62)), (3, .ref (z_ad (z_g C) 48)), (6, .int (zi x6)), (7, .int (zi x7))]) dX5_withMarks_68 (by decide) rfl ?_
    refine z_iinc hx hn 3 (lv' := [(6, .int (zi (x6 + 1))), (4, .long (zl ((31 * y4) + r2))), (0, .ref (z_ad (z_g C) 62)), (3, .ref (z_ad (z_g C) 48)), (7, .int (zi x7))]) dX5_withMarks_70 rfl (by decide) rfl ?_
    refine z_goto hx (tgt := 6) dX5_withMarks_73 (by decide) ?_
    refine z_sub [2, 3, 1, 0] rfl ?_
    exact hK6 σ1 ((31 * y4) + r2) (x6 + 1) h
  · refine z_ldc2 hx (n := 31) wk_X5_172 dX5_withMarks_27 ?_
    refine z_lload hx 2 dX5_withMarks_30 rfl ?_
    refine z_lmul hx dX5_withMarks_32 ?_
    refine z_aload_n hx 0 dX5_withMarks_33 rfl ?_
    refine gf_X5_recording hx wf_X5_20 dX5_withMarks_34 ?_
    refine z_iload hx 3 dX5_withMarks_37 rfl ?_
    refine z_iload hx 4 dX5_withMarks_39 rfl ?_
    obtain ⟨r4, σ3, h41, h⟩ := z_bind_some h
    refine z_calli hx (As := [.int (zi x6), .int (zi x7)]) (k := 0) (met_X2_numberOfMark (z_l C) (z_g C) (z_ok_sd hx) (show 0 < 6 by decide) h41) (z_lt0 (z_ok_sd hx) (by decide)) (z_ka0 (z_ok_sd hx) (show 0 < 6 by decide) _) rfl rfl cv_X5_110 (z_room hR ⟨Nat.le_of_ble_eq_true rfl, Nat.le_of_ble_eq_true rfl⟩) ⟨rfl, rfl⟩ rfl rfl (Nat.le_of_ble_eq_true rfl) dX5_withMarks_41 ?_
    refine z_i2l hx dX5_withMarks_44 h (fun h => ?_)
    refine z_ladd hx dX5_withMarks_45 ?_
    refine z_lstore hx hn (lv' := [(4, .long (zl ((31 * y4) + r4))), (0, .ref (z_ad (z_g C) 62)), (3, .ref (z_ad (z_g C) 48)), (6, .int (zi x6)), (7, .int (zi x7))]) dX5_withMarks_46 (by decide) rfl ?_
    refine z_iinc hx hn 4 (lv' := [(7, .int (zi (x7 + 1))), (4, .long (zl ((31 * y4) + r4))), (0, .ref (z_ad (z_g C) 62)), (3, .ref (z_ad (z_g C) 48)), (6, .int (zi x6))]) dX5_withMarks_48 rfl (by decide) rfl ?_
    refine z_goto hx (tgt := 21) dX5_withMarks_51 (by decide) ?_
    refine z_sub [2, 3, 1, 4, 0] rfl ?_
    exact hK21 σ3 ((31 * y4) + r4) x6 (x7 + 1) h

theorem w_X5_withMarks_l21 {C : zC} (hx : z_ok C cX5_withMarks RX5 0) (hn : z_nL C = 8) (hR : z_R C = rm_X5_withMarks) {rr : Int × zS} (hq : z_fin C (some .long) (z_QL (z_g C) rr.1 rr.2)) {K6 : zS → Int → Int → Option (Int × zS)} (hK6 : ∀ (σ : zS) (y4 : Int) (x6 : Int) , K6 σ y4 x6 = some rr → z_W C σ 6 [(0, .ref (z_ad (z_g C) 62)), (3, .ref (z_ad (z_g C) 48)), (4, .long (zl y4)), (6, .int (zi x6))] []) : ∀ (n : Nat) (σ : zS) (y4 : Int) (x6 : Int) (x7 : Int) (_ : f_X5_withMarks_l21 K6 n σ y4 x6 x7 = some rr), z_W C σ 21 [(0, .ref (z_ad (z_g C) 62)), (3, .ref (z_ad (z_g C) 48)), (4, .long (zl y4)), (6, .int (zi x6)), (7, .int (zi x7))] [] := by
  intro n
  induction n with
  | zero => intro σ y4 x6 x7 h; cases h
  | succ n ih =>
    intro σ y4 x6 x7 h
    exact w_X5_withMarks_b21 hx hn hR hq hK6 ih σ y4 x6 x7 h
theorem w_X5_withMarks_b6 {C : zC} (hx : z_ok C cX5_withMarks RX5 0) (hn : z_nL C = 8) (hR : z_R C = rm_X5_withMarks) {rr : Int × zS} (hq : z_fin C (some .long) (z_QL (z_g C) rr.1 rr.2)) {K6 : zS → Int → Int → Option (Int × zS)} (hK6 : ∀ (σ : zS) (y4 : Int) (x6 : Int) , K6 σ y4 x6 = some rr → z_W C σ 6 [(0, .ref (z_ad (z_g C) 62)), (3, .ref (z_ad (z_g C) 48)), (4, .long (zl y4)), (6, .int (zi x6))] []) (σ : zS) (y4 : Int) (x6 : Int) (h : f_X5_withMarks_b6 K6 σ y4 x6 = some rr) : z_W C σ 6 [(0, .ref (z_ad (z_g C) 62)), (3, .ref (z_ad (z_g C) 48)), (4, .long (zl y4)), (6, .int (zi x6))] [] := by
  unfold f_X5_withMarks_b6 at h
  refine z_iload hx 3 dX5_withMarks_6 rfl ?_
  refine z_aload_n hx 0 dX5_withMarks_8 rfl ?_
  refine gf_X5_recording hx wf_X5_20 dX5_withMarks_9 ?_
  refine gf_X2_marks hx wf_X5_78 (show 0 < 6 by decide) dX5_withMarks_12 ?_
  refine z_icmp_ge hx (tgt := 76) dX5_withMarks_15 (by decide) h (fun h => h) (fun hc h => ?_) (fun hc h => ?_)
  · refine z_lload hx 2 dX5_withMarks_76 rfl ?_
    cases h
    exact z_lret hx hq dX5_withMarks_78
  · refine z_iconst hx (n := 0) dX5_withMarks_18 ?_
    refine z_istore hx hn (lv' := [(7, .int (zi 0)), (0, .ref (z_ad (z_g C) 62)), (3, .ref (z_ad (z_g C) 48)), (4, .long (zl y4)), (6, .int (zi x6))]) dX5_withMarks_19 (by decide) rfl ?_
    refine z_sub [1, 2, 3, 4, 0] rfl ?_
    exact w_X5_withMarks_l21 hx hn hR hq hK6 z_fuel σ y4 x6 0 h

theorem w_X5_withMarks_l6 {C : zC} (hx : z_ok C cX5_withMarks RX5 0) (hn : z_nL C = 8) (hR : z_R C = rm_X5_withMarks) {rr : Int × zS} (hq : z_fin C (some .long) (z_QL (z_g C) rr.1 rr.2)) : ∀ (n : Nat) (σ : zS) (y4 : Int) (x6 : Int) (_ : f_X5_withMarks_l6 n σ y4 x6 = some rr), z_W C σ 6 [(0, .ref (z_ad (z_g C) 62)), (3, .ref (z_ad (z_g C) 48)), (4, .long (zl y4)), (6, .int (zi x6))] [] := by
  intro n
  induction n with
  | zero => intro σ y4 x6 h; cases h
  | succ n ih =>
    intro σ y4 x6 h
    exact w_X5_withMarks_b6 hx hn hR hq ih σ y4 x6 h
theorem w_X5_withMarks {C : zC} (hx : z_ok C cX5_withMarks RX5 0) (hn : z_nL C = 8) (hR : z_R C = rm_X5_withMarks) {rr : Int × zS} (hq : z_fin C (some .long) (z_QL (z_g C) rr.1 rr.2)) (σ : zS) (y1 : Int) (h : f_X5_withMarks σ y1 = some rr) : z_W C σ 0 [(0, .ref (z_ad (z_g C) 62)), (1, .long (zl y1)), (3, .ref (z_ad (z_g C) 48))] [] := by
  unfold f_X5_withMarks at h
  refine z_lload_n hx 1 dX5_withMarks_0 rfl ?_
  refine z_lstore hx hn (lv' := [(4, .long (zl y1)), (0, .ref (z_ad (z_g C) 62)), (1, .long (zl y1)), (3, .ref (z_ad (z_g C) 48))]) dX5_withMarks_1 (by decide) rfl ?_
  refine z_iconst hx (n := 0) dX5_withMarks_3 ?_
  refine z_istore hx hn (lv' := [(6, .int (zi 0)), (4, .long (zl y1)), (0, .ref (z_ad (z_g C) 62)), (1, .long (zl y1)), (3, .ref (z_ad (z_g C) 48))]) dX5_withMarks_4 (by decide) rfl ?_
  refine z_sub [2, 4, 1, 0] rfl ?_
  exact w_X5_withMarks_l6 hx hn hR hq z_fuel σ y1 0 h

theorem met_X5_withMarks (l : Launch) (g : zG) (hg : g.1 = 0) {σ : zS} {y1 : Int} {rr : Int × zS} (h : f_X5_withMarks σ y1 = some rr) : z_Met l yX5_withMarks cX5_withMarks 8 (some .long) rm_X5_withMarks g [.ref (z_ad (g) 62), .long (zl y1), .ref (z_ad (g) 48)] σ (z_QL g rr.1 rr.2) := by
  refine z_enter (own := RX5) (sd := 0) (lv0 := [(0, .ref (z_ad (g) 62)), (1, .long (zl y1)), (3, .ref (z_ad (g) 48))]) (by decide) rfl (Nat.le_of_ble_eq_true rfl) hg rfl (fun C hx hl hgC hR hn hq => ?_)
  subst hgC
  refine z_sub [0, 1, 2] rfl ?_
  exact w_X5_withMarks hx hn hR hq σ y1 h
theorem dX5_withCuts_0 : decode cX5_withCuts 0 = .ok (.ldc2_w 172, 3) := by decide +kernel
theorem dX5_withCuts_3 : decode cX5_withCuts 3 = .ok (.lload_n 1, 1) := by decide +kernel
theorem dX5_withCuts_4 : decode cX5_withCuts 4 = .ok (.lmul, 1) := by decide +kernel
theorem dX5_withCuts_5 : decode cX5_withCuts 5 = .ok (.aload_n 3, 1) := by decide +kernel
theorem dX5_withCuts_6 : decode cX5_withCuts 6 = .ok (.getfield 120, 3) := by decide +kernel
theorem dX5_withCuts_9 : decode cX5_withCuts 9 = .ok (.i2l, 1) := by decide +kernel
theorem dX5_withCuts_10 : decode cX5_withCuts 10 = .ok (.ladd, 1) := by decide +kernel
theorem dX5_withCuts_11 : decode cX5_withCuts 11 = .ok (.lstore 4, 2) := by decide +kernel
theorem dX5_withCuts_13 : decode cX5_withCuts 13 = .ok (.iconst 0, 1) := by decide +kernel
theorem dX5_withCuts_14 : decode cX5_withCuts 14 = .ok (.istore 6, 2) := by decide +kernel
theorem dX5_withCuts_16 : decode cX5_withCuts 16 = .ok (.iload 6, 2) := by decide +kernel
theorem dX5_withCuts_18 : decode cX5_withCuts 18 = .ok (.aload_n 3, 1) := by decide +kernel
theorem dX5_withCuts_19 : decode cX5_withCuts 19 = .ok (.getfield 120, 3) := by decide +kernel
theorem dX5_withCuts_22 : decode cX5_withCuts 22 = .ok (.if_icmp .ge 42, 3) := by decide +kernel
theorem dX5_withCuts_25 : decode cX5_withCuts 25 = .ok (.iconst 0, 1) := by decide +kernel
theorem dX5_withCuts_26 : decode cX5_withCuts 26 = .ok (.istore 7, 2) := by decide +kernel
theorem dX5_withCuts_28 : decode cX5_withCuts 28 = .ok (.iload 7, 2) := by decide +kernel
theorem dX5_withCuts_30 : decode cX5_withCuts 30 = .ok (.iconst 5, 1) := by decide +kernel
theorem dX5_withCuts_31 : decode cX5_withCuts 31 = .ok (.if_icmp .ge 27, 3) := by decide +kernel
theorem dX5_withCuts_34 : decode cX5_withCuts 34 = .ok (.ldc2_w 172, 3) := by decide +kernel
theorem dX5_withCuts_37 : decode cX5_withCuts 37 = .ok (.lload 4, 2) := by decide +kernel
theorem dX5_withCuts_39 : decode cX5_withCuts 39 = .ok (.lmul, 1) := by decide +kernel
theorem dX5_withCuts_40 : decode cX5_withCuts 40 = .ok (.aload_n 3, 1) := by decide +kernel
theorem dX5_withCuts_41 : decode cX5_withCuts 41 = .ok (.iload 6, 2) := by decide +kernel
theorem dX5_withCuts_43 : decode cX5_withCuts 43 = .ok (.iload 7, 2) := by decide +kernel
theorem dX5_withCuts_45 : decode cX5_withCuts 45 = .ok (.invokevirtual 123, 3) := by decide +kernel
theorem dX5_withCuts_48 : decode cX5_withCuts 48 = .ok (.i2l, 1) := by decide +kernel
theorem dX5_withCuts_49 : decode cX5_withCuts 49 = .ok (.ladd, 1) := by decide +kernel
theorem dX5_withCuts_50 : decode cX5_withCuts 50 = .ok (.lstore 4, 2) := by decide +kernel
theorem dX5_withCuts_52 : decode cX5_withCuts 52 = .ok (.iinc 7 1, 3) := by decide +kernel
theorem dX5_withCuts_55 : decode cX5_withCuts 55 = .ok (.goto (-27), 3) := by decide +kernel
theorem dX5_withCuts_58 : decode cX5_withCuts 58 = .ok (.iinc 6 1, 3) := by decide +kernel
theorem dX5_withCuts_61 : decode cX5_withCuts 61 = .ok (.goto (-45), 3) := by decide +kernel
theorem dX5_withCuts_64 : decode cX5_withCuts 64 = .ok (.lload 4, 2) := by decide +kernel
theorem dX5_withCuts_66 : decode cX5_withCuts 66 = .ok (.lreturn, 1) := by decide +kernel
abbrev rm_X5_withCuts : Room := { frames := 1, cells := 0, slots := 0, locals := 22 }
theorem w_X5_withCuts_b28 {C : zC} (hx : z_ok C cX5_withCuts RX5 0) (hn : z_nL C = 8) (hR : z_R C = rm_X5_withCuts) {rr : Int × zS} (hq : z_fin C (some .long) (z_QL (z_g C) rr.1 rr.2)) {K16 : zS → Int → Int → Option (Int × zS)} (hK16 : ∀ (σ : zS) (y4 : Int) (x6 : Int) , K16 σ y4 x6 = some rr → z_W C σ 16 [(3, .ref (z_ad (z_g C) 48)), (4, .long (zl y4)), (6, .int (zi x6))] []) {K28 : zS → Int → Int → Int → Option (Int × zS)} (hK28 : ∀ (σ : zS) (y4 : Int) (x6 : Int) (x7 : Int) , K28 σ y4 x6 x7 = some rr → z_W C σ 28 [(3, .ref (z_ad (z_g C) 48)), (4, .long (zl y4)), (6, .int (zi x6)), (7, .int (zi x7))] []) (σ : zS) (y4 : Int) (x6 : Int) (x7 : Int) (h : f_X5_withCuts_b28 K16 K28 σ y4 x6 x7 = some rr) : z_W C σ 28 [(3, .ref (z_ad (z_g C) 48)), (4, .long (zl y4)), (6, .int (zi x6)), (7, .int (zi x7))] [] := by
  unfold f_X5_withCuts_b28 at h
  refine z_iload hx 3 dX5_withCuts_28 rfl ?_
  refine z_iconst hx (n := 5) dX5_withCuts_30 ?_
  refine z_icmp_ge hx (tgt := 58) dX5_withCuts_31 (by decide) h (fun h => ⟨h, by decide⟩) (fun hc h => ?_) (fun hc h => ?_)
  · refine z_iinc hx hn 2 (lv' := [(6, .int (zi (x6 + 1))), (3, .ref (z_ad (z_g C) 48)), (4, .long (zl y4)), (7, .int (zi x7))]) dX5_withCuts_58 rfl (by decide) rfl ?_
    refine z_goto hx (tgt := 16) dX5_withCuts_61 (by decide) ?_
    refine z_sub [1, 2, 0] rfl ?_
    exact hK16 σ y4 (x6 + 1) h
  · refine z_ldc2 hx (n := 31) wk_X5_172 dX5_withCuts_34 ?_
    refine z_lload hx 1 dX5_withCuts_37 rfl ?_
    refine z_lmul hx dX5_withCuts_39 ?_
    refine z_aload_n hx 0 dX5_withCuts_40 rfl ?_
    refine z_iload hx 2 dX5_withCuts_41 rfl ?_
    refine z_iload hx 3 dX5_withCuts_43 rfl ?_
    obtain ⟨r2, σ1, h45, h⟩ := z_bind_some h
    refine z_calli hx (As := [.int (zi x6), .int (zi x7)]) (k := 48) (met_X0_numberOfCut (z_l C) (z_g C) (z_ok_sd hx) h45) (z_lt0 (z_ok_sd hx) (by decide)) (z_kb48 (z_ok_sd hx) _) rfl rfl cv_X5_123 (z_room hR ⟨Nat.le_of_ble_eq_true rfl, Nat.le_of_ble_eq_true rfl⟩) ⟨rfl, rfl⟩ rfl rfl (Nat.le_of_ble_eq_true rfl) dX5_withCuts_45 ?_
    refine z_i2l hx dX5_withCuts_48 h (fun h => ?_)
    refine z_ladd hx dX5_withCuts_49 ?_
    refine z_lstore hx hn (lv' := [(4, .long (zl ((31 * y4) + r2))), (3, .ref (z_ad (z_g C) 48)), (6, .int (zi x6)), (7, .int (zi x7))]) dX5_withCuts_50 (by decide) rfl ?_
    refine z_iinc hx hn 3 (lv' := [(7, .int (zi (x7 + 1))), (4, .long (zl ((31 * y4) + r2))), (3, .ref (z_ad (z_g C) 48)), (6, .int (zi x6))]) dX5_withCuts_52 rfl (by decide) rfl ?_
    refine z_goto hx (tgt := 28) dX5_withCuts_55 (by decide) ?_
    refine z_sub [2, 1, 3, 0] rfl ?_
    exact hK28 σ1 ((31 * y4) + r2) x6 (x7 + 1) h

theorem w_X5_withCuts_l28 {C : zC} (hx : z_ok C cX5_withCuts RX5 0) (hn : z_nL C = 8) (hR : z_R C = rm_X5_withCuts) {rr : Int × zS} (hq : z_fin C (some .long) (z_QL (z_g C) rr.1 rr.2)) {K16 : zS → Int → Int → Option (Int × zS)} (hK16 : ∀ (σ : zS) (y4 : Int) (x6 : Int) , K16 σ y4 x6 = some rr → z_W C σ 16 [(3, .ref (z_ad (z_g C) 48)), (4, .long (zl y4)), (6, .int (zi x6))] []) : ∀ (n : Nat) (σ : zS) (y4 : Int) (x6 : Int) (x7 : Int) (_ : f_X5_withCuts_l28 K16 n σ y4 x6 x7 = some rr), z_W C σ 28 [(3, .ref (z_ad (z_g C) 48)), (4, .long (zl y4)), (6, .int (zi x6)), (7, .int (zi x7))] [] := by
  intro n
  induction n with
  | zero => intro σ y4 x6 x7 h; cases h
  | succ n ih =>
    intro σ y4 x6 x7 h
    exact w_X5_withCuts_b28 hx hn hR hq hK16 ih σ y4 x6 x7 h
theorem w_X5_withCuts_b16 {C : zC} (hx : z_ok C cX5_withCuts RX5 0) (hn : z_nL C = 8) (hR : z_R C = rm_X5_withCuts) {rr : Int × zS} (hq : z_fin C (some .long) (z_QL (z_g C) rr.1 rr.2)) {K16 : zS → Int → Int → Option (Int × zS)} (hK16 : ∀ (σ : zS) (y4 : Int) (x6 : Int) , K16 σ y4 x6 = some rr → z_W C σ 16 [(3, .ref (z_ad (z_g C) 48)), (4, .long (zl y4)), (6, .int (zi x6))] []) (σ : zS) (y4 : Int) (x6 : Int) (h : f_X5_withCuts_b16 K16 σ y4 x6 = some rr) : z_W C σ 16 [(3, .ref (z_ad (z_g C) 48)), (4, .long (zl y4)), (6, .int (zi x6))] [] := by
  unfold f_X5_withCuts_b16 at h
  refine z_iload hx 2 dX5_withCuts_16 rfl ?_
  refine z_aload_n hx 0 dX5_withCuts_18 rfl ?_
  refine gf_X0_count hx wf_X5_120 dX5_withCuts_19 ?_
  refine z_icmp_ge hx (tgt := 64) dX5_withCuts_22 (by decide) h (fun h => h) (fun hc h => ?_) (fun hc h => ?_)
  · refine z_lload hx 1 dX5_withCuts_64 rfl ?_
    cases h
    exact z_lret hx hq dX5_withCuts_66
  · refine z_iconst hx (n := 0) dX5_withCuts_25 ?_
    refine z_istore hx hn (lv' := [(7, .int (zi 0)), (3, .ref (z_ad (z_g C) 48)), (4, .long (zl y4)), (6, .int (zi x6))]) dX5_withCuts_26 (by decide) rfl ?_
    refine z_sub [1, 2, 3, 0] rfl ?_
    exact w_X5_withCuts_l28 hx hn hR hq hK16 z_fuel σ y4 x6 0 h

theorem w_X5_withCuts_l16 {C : zC} (hx : z_ok C cX5_withCuts RX5 0) (hn : z_nL C = 8) (hR : z_R C = rm_X5_withCuts) {rr : Int × zS} (hq : z_fin C (some .long) (z_QL (z_g C) rr.1 rr.2)) : ∀ (n : Nat) (σ : zS) (y4 : Int) (x6 : Int) (_ : f_X5_withCuts_l16 n σ y4 x6 = some rr), z_W C σ 16 [(3, .ref (z_ad (z_g C) 48)), (4, .long (zl y4)), (6, .int (zi x6))] [] := by
  intro n
  induction n with
  | zero => intro σ y4 x6 h; cases h
  | succ n ih =>
    intro σ y4 x6 h
    exact w_X5_withCuts_b16 hx hn hR hq ih σ y4 x6 h
theorem w_X5_withCuts {C : zC} (hx : z_ok C cX5_withCuts RX5 0) (hn : z_nL C = 8) (hR : z_R C = rm_X5_withCuts) {rr : Int × zS} (hq : z_fin C (some .long) (z_QL (z_g C) rr.1 rr.2)) (σ : zS) (y1 : Int) (h : f_X5_withCuts σ y1 = some rr) : z_W C σ 0 [(1, .long (zl y1)), (3, .ref (z_ad (z_g C) 48))] [] := by
  unfold f_X5_withCuts at h
  refine z_ldc2 hx (n := 31) wk_X5_172 dX5_withCuts_0 ?_
  refine z_lload_n hx 0 dX5_withCuts_3 rfl ?_
  refine z_lmul hx dX5_withCuts_4 ?_
  refine z_aload_n hx 1 dX5_withCuts_5 rfl ?_
  refine gf_X0_count hx wf_X5_120 dX5_withCuts_6 ?_
  refine z_i2l hx dX5_withCuts_9 h (fun h => ?_)
  refine z_ladd hx dX5_withCuts_10 ?_
  refine z_lstore hx hn (lv' := [(4, .long (zl ((31 * y1) + (σ 48 5)))), (1, .long (zl y1)), (3, .ref (z_ad (z_g C) 48))]) dX5_withCuts_11 (by decide) rfl ?_
  refine z_iconst hx (n := 0) dX5_withCuts_13 ?_
  refine z_istore hx hn (lv' := [(6, .int (zi 0)), (4, .long (zl ((31 * y1) + (σ 48 5)))), (1, .long (zl y1)), (3, .ref (z_ad (z_g C) 48))]) dX5_withCuts_14 (by decide) rfl ?_
  refine z_sub [3, 1, 0] rfl ?_
  exact w_X5_withCuts_l16 hx hn hR hq z_fuel σ ((31 * y1) + (σ 48 5)) 0 h

theorem met_X5_withCuts (l : Launch) (g : zG) (hg : g.1 = 0) {σ : zS} {y1 : Int} {rr : Int × zS} (h : f_X5_withCuts σ y1 = some rr) : z_Met l yX5_withCuts cX5_withCuts 8 (some .long) rm_X5_withCuts g [.ref (z_ad (g) 62), .long (zl y1), .ref (z_ad (g) 48)] σ (z_QL g rr.1 rr.2) := by
  refine z_enter (own := RX5) (sd := 0) (lv0 := [(0, .ref (z_ad (g) 62)), (1, .long (zl y1)), (3, .ref (z_ad (g) 48))]) (by decide) rfl (Nat.le_of_ble_eq_true rfl) hg rfl (fun C hx hl hgC hR hn hq => ?_)
  subst hgC
  refine z_sub [1, 2] rfl ?_
  exact w_X5_withCuts hx hn hR hq σ y1 h
theorem dX5_withResult_0 : decode cX5_withResult 0 = .ok (.ldc2_w 172, 3) := by decide +kernel
theorem dX5_withResult_3 : decode cX5_withResult 3 = .ok (.lload_n 1, 1) := by decide +kernel
theorem dX5_withResult_4 : decode cX5_withResult 4 = .ok (.lmul, 1) := by decide +kernel
theorem dX5_withResult_5 : decode cX5_withResult 5 = .ok (.aload_n 3, 1) := by decide +kernel
theorem dX5_withResult_6 : decode cX5_withResult 6 = .ok (.getfield 147, 3) := by decide +kernel
theorem dX5_withResult_9 : decode cX5_withResult 9 = .ok (.i2l, 1) := by decide +kernel
theorem dX5_withResult_10 : decode cX5_withResult 10 = .ok (.ladd, 1) := by decide +kernel
theorem dX5_withResult_11 : decode cX5_withResult 11 = .ok (.lstore 4, 2) := by decide +kernel
theorem dX5_withResult_13 : decode cX5_withResult 13 = .ok (.iconst 0, 1) := by decide +kernel
theorem dX5_withResult_14 : decode cX5_withResult 14 = .ok (.istore 6, 2) := by decide +kernel
theorem dX5_withResult_16 : decode cX5_withResult 16 = .ok (.iload 6, 2) := by decide +kernel
theorem dX5_withResult_18 : decode cX5_withResult 18 = .ok (.aload_n 3, 1) := by decide +kernel
theorem dX5_withResult_19 : decode cX5_withResult 19 = .ok (.getfield 147, 3) := by decide +kernel
theorem dX5_withResult_22 : decode cX5_withResult 22 = .ok (.if_icmp .ge 43, 3) := by decide +kernel
theorem dX5_withResult_25 : decode cX5_withResult 25 = .ok (.ldc2_w 172, 3) := by decide +kernel
theorem dX5_withResult_28 : decode cX5_withResult 28 = .ok (.lload 4, 2) := by decide +kernel
theorem dX5_withResult_30 : decode cX5_withResult 30 = .ok (.lmul, 1) := by decide +kernel
theorem dX5_withResult_31 : decode cX5_withResult 31 = .ok (.aload_n 3, 1) := by decide +kernel
theorem dX5_withResult_32 : decode cX5_withResult 32 = .ok (.getfield 148, 3) := by decide +kernel
theorem dX5_withResult_35 : decode cX5_withResult 35 = .ok (.iload 6, 2) := by decide +kernel
theorem dX5_withResult_37 : decode cX5_withResult 37 = .ok (.iaload, 1) := by decide +kernel
theorem dX5_withResult_38 : decode cX5_withResult 38 = .ok (.i2l, 1) := by decide +kernel
theorem dX5_withResult_39 : decode cX5_withResult 39 = .ok (.ladd, 1) := by decide +kernel
theorem dX5_withResult_40 : decode cX5_withResult 40 = .ok (.lstore 4, 2) := by decide +kernel
theorem dX5_withResult_42 : decode cX5_withResult 42 = .ok (.ldc2_w 172, 3) := by decide +kernel
theorem dX5_withResult_45 : decode cX5_withResult 45 = .ok (.lload 4, 2) := by decide +kernel
theorem dX5_withResult_47 : decode cX5_withResult 47 = .ok (.lmul, 1) := by decide +kernel
theorem dX5_withResult_48 : decode cX5_withResult 48 = .ok (.aload_n 3, 1) := by decide +kernel
theorem dX5_withResult_49 : decode cX5_withResult 49 = .ok (.getfield 151, 3) := by decide +kernel
theorem dX5_withResult_52 : decode cX5_withResult 52 = .ok (.iload 6, 2) := by decide +kernel
theorem dX5_withResult_54 : decode cX5_withResult 54 = .ok (.iaload, 1) := by decide +kernel
theorem dX5_withResult_55 : decode cX5_withResult 55 = .ok (.i2l, 1) := by decide +kernel
theorem dX5_withResult_56 : decode cX5_withResult 56 = .ok (.ladd, 1) := by decide +kernel
theorem dX5_withResult_57 : decode cX5_withResult 57 = .ok (.lstore 4, 2) := by decide +kernel
theorem dX5_withResult_59 : decode cX5_withResult 59 = .ok (.iinc 6 1, 3) := by decide +kernel
theorem dX5_withResult_62 : decode cX5_withResult 62 = .ok (.goto (-46), 3) := by decide +kernel
theorem dX5_withResult_65 : decode cX5_withResult 65 = .ok (.lload 4, 2) := by decide +kernel
theorem dX5_withResult_67 : decode cX5_withResult 67 = .ok (.lreturn, 1) := by decide +kernel
abbrev rm_X5_withResult : Room := { frames := 0, cells := 0, slots := 0, locals := 0 }
theorem w_X5_withResult_b16 {C : zC} (hx : z_ok C cX5_withResult RX5 0) (hn : z_nL C = 7) (hR : z_R C = rm_X5_withResult) {rr : Int × zS} (hq : z_fin C (some .long) (z_QL (z_g C) rr.1 rr.2)) {K16 : zS → Int → Int → Option (Int × zS)} (hK16 : ∀ (σ : zS) (y4 : Int) (x6 : Int) , K16 σ y4 x6 = some rr → z_W C σ 16 [(3, .ref (z_ad (z_g C) 54)), (4, .long (zl y4)), (6, .int (zi x6))] []) (σ : zS) (y4 : Int) (x6 : Int) (h : f_X5_withResult_b16 K16 σ y4 x6 = some rr) : z_W C σ 16 [(3, .ref (z_ad (z_g C) 54)), (4, .long (zl y4)), (6, .int (zi x6))] [] := by
  unfold f_X5_withResult_b16 at h
  refine z_iload hx 2 dX5_withResult_16 rfl ?_
  refine z_aload_n hx 0 dX5_withResult_18 rfl ?_
  refine gf_X3_count hx wf_X5_147 dX5_withResult_19 ?_
  refine z_icmp_ge hx (tgt := 65) dX5_withResult_22 (by decide) h (fun h => h) (fun hc h => ?_) (fun hc h => ?_)
  · refine z_lload hx 1 dX5_withResult_65 rfl ?_
    cases h
    exact z_lret hx hq dX5_withResult_67
  · refine z_ldc2 hx (n := 31) wk_X5_172 dX5_withResult_25 ?_
    refine z_lload hx 1 dX5_withResult_28 rfl ?_
    refine z_lmul hx dX5_withResult_30 ?_
    refine z_aload_n hx 0 dX5_withResult_31 rfl ?_
    refine gf_X3_sources hx wf_X5_148 dX5_withResult_32 ?_
    refine z_iload hx 2 dX5_withResult_35 rfl ?_
    refine z_iald hx (n := 200) (z_lt0 (z_ok_sd hx) (by decide)) (z_kb55 (z_ok_sd hx) _) rfl (by decide) dX5_withResult_37 h (fun h => ?_)
    refine z_i2l hx dX5_withResult_38 h (fun h => ?_)
    refine z_ladd hx dX5_withResult_39 ?_
    refine z_lstore hx hn (lv' := [(4, .long (zl ((31 * y4) + (σ 55 x6)))), (3, .ref (z_ad (z_g C) 54)), (6, .int (zi x6))]) dX5_withResult_40 (by decide) rfl ?_
    refine z_ldc2 hx (n := 31) wk_X5_172 dX5_withResult_42 ?_
    refine z_lload hx 0 dX5_withResult_45 rfl ?_
    refine z_lmul hx dX5_withResult_47 ?_
    refine z_aload_n hx 1 dX5_withResult_48 rfl ?_
    refine gf_X3_levels hx wf_X5_151 dX5_withResult_49 ?_
    refine z_iload hx 2 dX5_withResult_52 rfl ?_
    refine z_iald hx (n := 200) (z_lt0 (z_ok_sd hx) (by decide)) (z_kb56 (z_ok_sd hx) _) rfl (by decide) dX5_withResult_54 h (fun h => ?_)
    refine z_i2l hx dX5_withResult_55 h (fun h => ?_)
    refine z_ladd hx dX5_withResult_56 ?_
    refine z_lstore hx hn (lv' := [(4, .long (zl ((31 * ((31 * y4) + (σ 55 x6))) + (σ 56 x6)))), (3, .ref (z_ad (z_g C) 54)), (6, .int (zi x6))]) dX5_withResult_57 (by decide) rfl ?_
    refine z_iinc hx hn 2 (lv' := [(6, .int (zi (x6 + 1))), (4, .long (zl ((31 * ((31 * y4) + (σ 55 x6))) + (σ 56 x6)))), (3, .ref (z_ad (z_g C) 54))]) dX5_withResult_59 rfl (by decide) rfl ?_
    refine z_goto hx (tgt := 16) dX5_withResult_62 (by decide) ?_
    refine z_sub [2, 1, 0] rfl ?_
    exact hK16 σ ((31 * ((31 * y4) + (σ 55 x6))) + (σ 56 x6)) (x6 + 1) h

theorem w_X5_withResult_l16 {C : zC} (hx : z_ok C cX5_withResult RX5 0) (hn : z_nL C = 7) (hR : z_R C = rm_X5_withResult) {rr : Int × zS} (hq : z_fin C (some .long) (z_QL (z_g C) rr.1 rr.2)) : ∀ (n : Nat) (σ : zS) (y4 : Int) (x6 : Int) (_ : f_X5_withResult_l16 n σ y4 x6 = some rr), z_W C σ 16 [(3, .ref (z_ad (z_g C) 54)), (4, .long (zl y4)), (6, .int (zi x6))] [] := by
  intro n
  induction n with
  | zero => intro σ y4 x6 h; cases h
  | succ n ih =>
    intro σ y4 x6 h
    exact w_X5_withResult_b16 hx hn hR hq ih σ y4 x6 h
theorem w_X5_withResult {C : zC} (hx : z_ok C cX5_withResult RX5 0) (hn : z_nL C = 7) (hR : z_R C = rm_X5_withResult) {rr : Int × zS} (hq : z_fin C (some .long) (z_QL (z_g C) rr.1 rr.2)) (σ : zS) (y1 : Int) (h : f_X5_withResult σ y1 = some rr) : z_W C σ 0 [(1, .long (zl y1)), (3, .ref (z_ad (z_g C) 54))] [] := by
  unfold f_X5_withResult at h
  refine z_ldc2 hx (n := 31) wk_X5_172 dX5_withResult_0 ?_
  refine z_lload_n hx 0 dX5_withResult_3 rfl ?_
  refine z_lmul hx dX5_withResult_4 ?_
  refine z_aload_n hx 1 dX5_withResult_5 rfl ?_
  refine gf_X3_count hx wf_X5_147 dX5_withResult_6 ?_
  refine z_i2l hx dX5_withResult_9 h (fun h => ?_)
  refine z_ladd hx dX5_withResult_10 ?_
  refine z_lstore hx hn (lv' := [(4, .long (zl ((31 * y1) + (σ 54 2)))), (1, .long (zl y1)), (3, .ref (z_ad (z_g C) 54))]) dX5_withResult_11 (by decide) rfl ?_
  refine z_iconst hx (n := 0) dX5_withResult_13 ?_
  refine z_istore hx hn (lv' := [(6, .int (zi 0)), (4, .long (zl ((31 * y1) + (σ 54 2)))), (1, .long (zl y1)), (3, .ref (z_ad (z_g C) 54))]) dX5_withResult_14 (by decide) rfl ?_
  refine z_sub [3, 1, 0] rfl ?_
  exact w_X5_withResult_l16 hx hn hR hq z_fuel σ ((31 * y1) + (σ 54 2)) 0 h

theorem met_X5_withResult (l : Launch) (g : zG) (hg : g.1 = 0) {σ : zS} {y1 : Int} {rr : Int × zS} (h : f_X5_withResult σ y1 = some rr) : z_Met l yX5_withResult cX5_withResult 7 (some .long) rm_X5_withResult g [.ref (z_ad (g) 62), .long (zl y1), .ref (z_ad (g) 54)] σ (z_QL g rr.1 rr.2) := by
  refine z_enter (own := RX5) (sd := 0) (lv0 := [(0, .ref (z_ad (g) 62)), (1, .long (zl y1)), (3, .ref (z_ad (g) 54))]) (by decide) rfl (Nat.le_of_ble_eq_true rfl) hg rfl (fun C hx hl hgC hR hn hq => ?_)
  subst hgC
  refine z_sub [1, 2] rfl ?_
  exact w_X5_withResult hx hn hR hq σ y1 h
theorem dX5_fingerprint_0 : decode cX5_fingerprint 0 = .ok (.ldc2_w 170, 3) := by decide +kernel
theorem dX5_fingerprint_3 : decode cX5_fingerprint 3 = .ok (.lstore_n 1, 1) := by decide +kernel
theorem dX5_fingerprint_4 : decode cX5_fingerprint 4 = .ok (.iconst 0, 1) := by decide +kernel
theorem dX5_fingerprint_5 : decode cX5_fingerprint 5 = .ok (.istore_n 3, 1) := by decide +kernel
theorem dX5_fingerprint_6 : decode cX5_fingerprint 6 = .ok (.iload_n 3, 1) := by decide +kernel
theorem dX5_fingerprint_7 : decode cX5_fingerprint 7 = .ok (.bipush 8, 2) := by decide +kernel
theorem dX5_fingerprint_9 : decode cX5_fingerprint 9 = .ok (.if_icmp .gt 22, 3) := by decide +kernel
theorem dX5_fingerprint_12 : decode cX5_fingerprint 12 = .ok (.ldc2_w 172, 3) := by decide +kernel
theorem dX5_fingerprint_15 : decode cX5_fingerprint 15 = .ok (.lload_n 1, 1) := by decide +kernel
theorem dX5_fingerprint_16 : decode cX5_fingerprint 16 = .ok (.lmul, 1) := by decide +kernel
theorem dX5_fingerprint_17 : decode cX5_fingerprint 17 = .ok (.aload_n 0, 1) := by decide +kernel
theorem dX5_fingerprint_18 : decode cX5_fingerprint 18 = .ok (.iload_n 3, 1) := by decide +kernel
theorem dX5_fingerprint_19 : decode cX5_fingerprint 19 = .ok (.invokevirtual 174, 3) := by decide +kernel
theorem dX5_fingerprint_22 : decode cX5_fingerprint 22 = .ok (.i2l, 1) := by decide +kernel
theorem dX5_fingerprint_23 : decode cX5_fingerprint 23 = .ok (.ladd, 1) := by decide +kernel
theorem dX5_fingerprint_24 : decode cX5_fingerprint 24 = .ok (.lstore_n 1, 1) := by decide +kernel
theorem dX5_fingerprint_25 : decode cX5_fingerprint 25 = .ok (.iinc 3 1, 3) := by decide +kernel
theorem dX5_fingerprint_28 : decode cX5_fingerprint 28 = .ok (.goto (-22), 3) := by decide +kernel
theorem dX5_fingerprint_31 : decode cX5_fingerprint 31 = .ok (.iconst 0, 1) := by decide +kernel
theorem dX5_fingerprint_32 : decode cX5_fingerprint 32 = .ok (.istore_n 3, 1) := by decide +kernel
theorem dX5_fingerprint_33 : decode cX5_fingerprint 33 = .ok (.iload_n 3, 1) := by decide +kernel
theorem dX5_fingerprint_34 : decode cX5_fingerprint 34 = .ok (.aload_n 0, 1) := by decide +kernel
theorem dX5_fingerprint_35 : decode cX5_fingerprint 35 = .ok (.getfield 20, 3) := by decide +kernel
theorem dX5_fingerprint_38 : decode cX5_fingerprint 38 = .ok (.getfield 66, 3) := by decide +kernel
theorem dX5_fingerprint_41 : decode cX5_fingerprint 41 = .ok (.if_icmp .ge 26, 3) := by decide +kernel
theorem dX5_fingerprint_44 : decode cX5_fingerprint 44 = .ok (.ldc2_w 172, 3) := by decide +kernel
theorem dX5_fingerprint_47 : decode cX5_fingerprint 47 = .ok (.lload_n 1, 1) := by decide +kernel
theorem dX5_fingerprint_48 : decode cX5_fingerprint 48 = .ok (.lmul, 1) := by decide +kernel
theorem dX5_fingerprint_49 : decode cX5_fingerprint 49 = .ok (.aload_n 0, 1) := by decide +kernel
theorem dX5_fingerprint_50 : decode cX5_fingerprint 50 = .ok (.getfield 20, 3) := by decide +kernel
theorem dX5_fingerprint_53 : decode cX5_fingerprint 53 = .ok (.getfield 177, 3) := by decide +kernel
theorem dX5_fingerprint_56 : decode cX5_fingerprint 56 = .ok (.iload_n 3, 1) := by decide +kernel
theorem dX5_fingerprint_57 : decode cX5_fingerprint 57 = .ok (.iaload, 1) := by decide +kernel
theorem dX5_fingerprint_58 : decode cX5_fingerprint 58 = .ok (.i2l, 1) := by decide +kernel
theorem dX5_fingerprint_59 : decode cX5_fingerprint 59 = .ok (.ladd, 1) := by decide +kernel
theorem dX5_fingerprint_60 : decode cX5_fingerprint 60 = .ok (.lstore_n 1, 1) := by decide +kernel
theorem dX5_fingerprint_61 : decode cX5_fingerprint 61 = .ok (.iinc 3 1, 3) := by decide +kernel
theorem dX5_fingerprint_64 : decode cX5_fingerprint 64 = .ok (.goto (-31), 3) := by decide +kernel
theorem dX5_fingerprint_67 : decode cX5_fingerprint 67 = .ok (.aload_n 0, 1) := by decide +kernel
theorem dX5_fingerprint_68 : decode cX5_fingerprint 68 = .ok (.invokevirtual 102, 3) := by decide +kernel
theorem dX5_fingerprint_71 : decode cX5_fingerprint 71 = .ok (.astore_n 3, 1) := by decide +kernel
theorem dX5_fingerprint_72 : decode cX5_fingerprint 72 = .ok (.aload_n 0, 1) := by decide +kernel
theorem dX5_fingerprint_73 : decode cX5_fingerprint 73 = .ok (.lload_n 1, 1) := by decide +kernel
theorem dX5_fingerprint_74 : decode cX5_fingerprint 74 = .ok (.aload_n 3, 1) := by decide +kernel
theorem dX5_fingerprint_75 : decode cX5_fingerprint 75 = .ok (.invokevirtual 178, 3) := by decide +kernel
theorem dX5_fingerprint_78 : decode cX5_fingerprint 78 = .ok (.lstore_n 1, 1) := by decide +kernel
theorem dX5_fingerprint_79 : decode cX5_fingerprint 79 = .ok (.aload_n 0, 1) := by decide +kernel
theorem dX5_fingerprint_80 : decode cX5_fingerprint 80 = .ok (.lload_n 1, 1) := by decide +kernel
theorem dX5_fingerprint_81 : decode cX5_fingerprint 81 = .ok (.aload_n 3, 1) := by decide +kernel
theorem dX5_fingerprint_82 : decode cX5_fingerprint 82 = .ok (.invokevirtual 182, 3) := by decide +kernel
theorem dX5_fingerprint_85 : decode cX5_fingerprint 85 = .ok (.lstore_n 1, 1) := by decide +kernel
theorem dX5_fingerprint_86 : decode cX5_fingerprint 86 = .ok (.aload_n 0, 1) := by decide +kernel
theorem dX5_fingerprint_87 : decode cX5_fingerprint 87 = .ok (.lload_n 1, 1) := by decide +kernel
theorem dX5_fingerprint_88 : decode cX5_fingerprint 88 = .ok (.aload_n 0, 1) := by decide +kernel
theorem dX5_fingerprint_89 : decode cX5_fingerprint 89 = .ok (.invokevirtual 143, 3) := by decide +kernel
theorem dX5_fingerprint_92 : decode cX5_fingerprint 92 = .ok (.invokevirtual 185, 3) := by decide +kernel
theorem dX5_fingerprint_95 : decode cX5_fingerprint 95 = .ok (.lreturn, 1) := by decide +kernel
abbrev rm_X5_fingerprint : Room := { frames := 6, cells := 0, slots := 0, locals := 146 }
theorem w_X5_fingerprint_b33 {C : zC} (hx : z_ok C cX5_fingerprint RX5 0) (hn : z_nL C = 4) (hR : z_R C = rm_X5_fingerprint) {rr : Int × zS} (hq : z_fin C (some .long) (z_QL (z_g C) rr.1 rr.2)) {K33 : zS → Int → Int → Option (Int × zS)} (hK33 : ∀ (σ : zS) (y1 : Int) (x3 : Int) , K33 σ y1 x3 = some rr → z_W C σ 33 [(0, .ref (z_ad (z_g C) 62)), (1, .long (zl y1)), (3, .int (zi x3))] []) (σ : zS) (y1 : Int) (x3 : Int) (h : f_X5_fingerprint_b33 K33 σ y1 x3 = some rr) : z_W C σ 33 [(0, .ref (z_ad (z_g C) 62)), (1, .long (zl y1)), (3, .int (zi x3))] [] := by
  unfold f_X5_fingerprint_b33 at h
  refine z_iload_n hx 2 dX5_fingerprint_33 rfl ?_
  refine z_aload_n hx 0 dX5_fingerprint_34 rfl ?_
  refine gf_X5_recording hx wf_X5_20 dX5_fingerprint_35 ?_
  refine gf_X2_frames hx wf_X5_66 (show 0 < 6 by decide) dX5_fingerprint_38 ?_
  refine z_icmp_ge hx (tgt := 67) dX5_fingerprint_41 (by decide) h (fun h => h) (fun hc h => ?_) (fun hc h => ?_)
  · refine z_aload_n hx 0 dX5_fingerprint_67 rfl ?_
    obtain ⟨⟨⟩, σ1, h68, h⟩ := z_bind_some h
    refine z_callr hx (As := []) (k := 62) (met_X5_currentCuts (z_l C) (z_g C) (z_ok_sd hx) h68) (z_lt0 (z_ok_sd hx) (by decide)) (z_kb62 (z_ok_sd hx) _) rfl rfl cv_X5_102 (z_room hR ⟨Nat.le_of_ble_eq_true rfl, Nat.le_of_ble_eq_true rfl⟩) ⟨rfl, rfl⟩ rfl rfl (Nat.le_of_ble_eq_true rfl) dX5_fingerprint_68 ?_
    refine z_astore_n hx hn (lv' := [(3, .ref (z_ad (z_g C) 48)), (0, .ref (z_ad (z_g C) 62)), (1, .long (zl y1))]) dX5_fingerprint_71 (by decide) rfl ?_
    refine z_aload_n hx 1 dX5_fingerprint_72 rfl ?_
    refine z_lload_n hx 2 dX5_fingerprint_73 rfl ?_
    refine z_aload_n hx 0 dX5_fingerprint_74 rfl ?_
    obtain ⟨r3, σ2, h75, h⟩ := z_bind_some h
    refine z_calll hx (As := [.long (zl y1), .ref (z_ad (z_g C) 48)]) (k := 62) (met_X5_withMarks (z_l C) (z_g C) (z_ok_sd hx) h75) (z_lt0 (z_ok_sd hx) (by decide)) (z_kb62 (z_ok_sd hx) _) rfl rfl cv_X5_178 (z_room hR ⟨Nat.le_of_ble_eq_true rfl, Nat.le_of_ble_eq_true rfl⟩) ⟨rfl, rfl⟩ rfl rfl (Nat.le_of_ble_eq_true rfl) dX5_fingerprint_75 ?_
    refine z_lstore_n hx hn (lv' := [(1, .long (zl r3)), (3, .ref (z_ad (z_g C) 48)), (0, .ref (z_ad (z_g C) 62))]) dX5_fingerprint_78 (by decide) rfl ?_
    refine z_aload_n hx 2 dX5_fingerprint_79 rfl ?_
    refine z_lload_n hx 0 dX5_fingerprint_80 rfl ?_
    refine z_aload_n hx 1 dX5_fingerprint_81 rfl ?_
    obtain ⟨r5, σ4, h82, h⟩ := z_bind_some h
    refine z_calll hx (As := [.long (zl r3), .ref (z_ad (z_g C) 48)]) (k := 62) (met_X5_withCuts (z_l C) (z_g C) (z_ok_sd hx) h82) (z_lt0 (z_ok_sd hx) (by decide)) (z_kb62 (z_ok_sd hx) _) rfl rfl cv_X5_182 (z_room hR ⟨Nat.le_of_ble_eq_true rfl, Nat.le_of_ble_eq_true rfl⟩) ⟨rfl, rfl⟩ rfl rfl (Nat.le_of_ble_eq_true rfl) dX5_fingerprint_82 ?_
    refine z_lstore_n hx hn (lv' := [(1, .long (zl r5)), (3, .ref (z_ad (z_g C) 48)), (0, .ref (z_ad (z_g C) 62))]) dX5_fingerprint_85 (by decide) rfl ?_
    refine z_aload_n hx 2 dX5_fingerprint_86 rfl ?_
    refine z_lload_n hx 0 dX5_fingerprint_87 rfl ?_
    refine z_aload_n hx 2 dX5_fingerprint_88 rfl ?_
    obtain ⟨⟨⟩, σ6, h89, h⟩ := z_bind_some h
    refine z_callr hx (As := []) (k := 62) (met_X5_currentResult (z_l C) (z_g C) (z_ok_sd hx) h89) (z_lt0 (z_ok_sd hx) (by decide)) (z_kb62 (z_ok_sd hx) _) rfl rfl cv_X5_143 (z_room hR ⟨Nat.le_of_ble_eq_true rfl, Nat.le_of_ble_eq_true rfl⟩) ⟨rfl, rfl⟩ rfl rfl (Nat.le_of_ble_eq_true rfl) dX5_fingerprint_89 ?_
    obtain ⟨r8, σ7, h92, h⟩ := z_bind_some h
    refine z_calll hx (As := [.long (zl r5), .ref (z_ad (z_g C) 54)]) (k := 62) (met_X5_withResult (z_l C) (z_g C) (z_ok_sd hx) h92) (z_lt0 (z_ok_sd hx) (by decide)) (z_kb62 (z_ok_sd hx) _) rfl rfl cv_X5_185 (z_room hR ⟨Nat.le_of_ble_eq_true rfl, Nat.le_of_ble_eq_true rfl⟩) ⟨rfl, rfl⟩ rfl rfl (Nat.le_of_ble_eq_true rfl) dX5_fingerprint_92 ?_
    cases h
    exact z_lret hx hq dX5_fingerprint_95
  · refine z_ldc2 hx (n := 31) wk_X5_172 dX5_fingerprint_44 ?_
    refine z_lload_n hx 1 dX5_fingerprint_47 rfl ?_
    refine z_lmul hx dX5_fingerprint_48 ?_
    refine z_aload_n hx 0 dX5_fingerprint_49 rfl ?_
    refine gf_X5_recording hx wf_X5_20 dX5_fingerprint_50 ?_
    refine gf_X2_levels hx wf_X5_177 (show 0 < 6 by decide) dX5_fingerprint_53 ?_
    refine z_iload_n hx 2 dX5_fingerprint_56 rfl ?_
    refine z_iald hx (n := 200) (z_lt0 (z_ok_sd hx) (by decide)) (z_ka1 (z_ok_sd hx) (show 0 < 6 by decide) _) rfl (by decide) dX5_fingerprint_57 h (fun h => ?_)
    refine z_i2l hx dX5_fingerprint_58 h (fun h => ?_)
    refine z_ladd hx dX5_fingerprint_59 ?_
    refine z_lstore_n hx hn (lv' := [(1, .long (zl ((31 * y1) + (σ 1 x3)))), (0, .ref (z_ad (z_g C) 62)), (3, .int (zi x3))]) dX5_fingerprint_60 (by decide) rfl ?_
    refine z_iinc hx hn 2 (lv' := [(3, .int (zi (x3 + 1))), (1, .long (zl ((31 * y1) + (σ 1 x3)))), (0, .ref (z_ad (z_g C) 62))]) dX5_fingerprint_61 rfl (by decide) rfl ?_
    refine z_goto hx (tgt := 33) dX5_fingerprint_64 (by decide) ?_
    refine z_sub [2, 1, 0] rfl ?_
    exact hK33 σ ((31 * y1) + (σ 1 x3)) (x3 + 1) h

theorem w_X5_fingerprint_l33 {C : zC} (hx : z_ok C cX5_fingerprint RX5 0) (hn : z_nL C = 4) (hR : z_R C = rm_X5_fingerprint) {rr : Int × zS} (hq : z_fin C (some .long) (z_QL (z_g C) rr.1 rr.2)) : ∀ (n : Nat) (σ : zS) (y1 : Int) (x3 : Int) (_ : f_X5_fingerprint_l33 n σ y1 x3 = some rr), z_W C σ 33 [(0, .ref (z_ad (z_g C) 62)), (1, .long (zl y1)), (3, .int (zi x3))] [] := by
  intro n
  induction n with
  | zero => intro σ y1 x3 h; cases h
  | succ n ih =>
    intro σ y1 x3 h
    exact w_X5_fingerprint_b33 hx hn hR hq ih σ y1 x3 h
theorem w_X5_fingerprint_b6 {C : zC} (hx : z_ok C cX5_fingerprint RX5 0) (hn : z_nL C = 4) (hR : z_R C = rm_X5_fingerprint) {rr : Int × zS} (hq : z_fin C (some .long) (z_QL (z_g C) rr.1 rr.2)) {K6 : zS → Int → Int → Option (Int × zS)} (hK6 : ∀ (σ : zS) (y1 : Int) (x3 : Int) , K6 σ y1 x3 = some rr → z_W C σ 6 [(0, .ref (z_ad (z_g C) 62)), (1, .long (zl y1)), (3, .int (zi x3))] []) (σ : zS) (y1 : Int) (x3 : Int) (h : f_X5_fingerprint_b6 K6 σ y1 x3 = some rr) : z_W C σ 6 [(0, .ref (z_ad (z_g C) 62)), (1, .long (zl y1)), (3, .int (zi x3))] [] := by
  unfold f_X5_fingerprint_b6 at h
  refine z_iload_n hx 2 dX5_fingerprint_6 rfl ?_
  refine z_bipush hx (n := 8) dX5_fingerprint_7 rfl ?_
  refine z_icmp_gt hx (tgt := 31) dX5_fingerprint_9 (by decide) h (fun h => ⟨h, by decide⟩) (fun hc h => ?_) (fun hc h => ?_)
  · refine z_iconst hx (n := 0) dX5_fingerprint_31 ?_
    refine z_istore_n hx hn (lv' := [(3, .int (zi 0)), (0, .ref (z_ad (z_g C) 62)), (1, .long (zl y1))]) dX5_fingerprint_32 (by decide) rfl ?_
    refine z_sub [1, 2, 0] rfl ?_
    exact w_X5_fingerprint_l33 hx hn hR hq z_fuel σ y1 0 h
  · refine z_ldc2 hx (n := 31) wk_X5_172 dX5_fingerprint_12 ?_
    refine z_lload_n hx 1 dX5_fingerprint_15 rfl ?_
    refine z_lmul hx dX5_fingerprint_16 ?_
    refine z_aload_n hx 0 dX5_fingerprint_17 rfl ?_
    refine z_iload_n hx 2 dX5_fingerprint_18 rfl ?_
    obtain ⟨r2, σ1, h19, h⟩ := z_bind_some h
    refine z_calli hx (As := [.int (zi x3)]) (k := 62) (met_X5_setting (z_l C) (z_g C) (z_ok_sd hx) h19) (z_lt0 (z_ok_sd hx) (by decide)) (z_kb62 (z_ok_sd hx) _) rfl rfl cv_X5_174 (z_room hR ⟨Nat.le_of_ble_eq_true rfl, Nat.le_of_ble_eq_true rfl⟩) ⟨rfl, rfl⟩ rfl rfl (Nat.le_of_ble_eq_true rfl) dX5_fingerprint_19 ?_
    refine z_i2l hx dX5_fingerprint_22 h (fun h => ?_)
    refine z_ladd hx dX5_fingerprint_23 ?_
    refine z_lstore_n hx hn (lv' := [(1, .long (zl ((31 * y1) + r2))), (0, .ref (z_ad (z_g C) 62)), (3, .int (zi x3))]) dX5_fingerprint_24 (by decide) rfl ?_
    refine z_iinc hx hn 2 (lv' := [(3, .int (zi (x3 + 1))), (1, .long (zl ((31 * y1) + r2))), (0, .ref (z_ad (z_g C) 62))]) dX5_fingerprint_25 rfl (by decide) rfl ?_
    refine z_goto hx (tgt := 6) dX5_fingerprint_28 (by decide) ?_
    refine z_sub [2, 1, 0] rfl ?_
    exact hK6 σ1 ((31 * y1) + r2) (x3 + 1) h

theorem w_X5_fingerprint_l6 {C : zC} (hx : z_ok C cX5_fingerprint RX5 0) (hn : z_nL C = 4) (hR : z_R C = rm_X5_fingerprint) {rr : Int × zS} (hq : z_fin C (some .long) (z_QL (z_g C) rr.1 rr.2)) : ∀ (n : Nat) (σ : zS) (y1 : Int) (x3 : Int) (_ : f_X5_fingerprint_l6 n σ y1 x3 = some rr), z_W C σ 6 [(0, .ref (z_ad (z_g C) 62)), (1, .long (zl y1)), (3, .int (zi x3))] [] := by
  intro n
  induction n with
  | zero => intro σ y1 x3 h; cases h
  | succ n ih =>
    intro σ y1 x3 h
    exact w_X5_fingerprint_b6 hx hn hR hq ih σ y1 x3 h
theorem w_X5_fingerprint {C : zC} (hx : z_ok C cX5_fingerprint RX5 0) (hn : z_nL C = 4) (hR : z_R C = rm_X5_fingerprint) {rr : Int × zS} (hq : z_fin C (some .long) (z_QL (z_g C) rr.1 rr.2)) (σ : zS) (h : f_X5_fingerprint σ = some rr) : z_W C σ 0 [(0, .ref (z_ad (z_g C) 62))] [] := by
  unfold f_X5_fingerprint at h
  refine z_ldc2 hx (n := 151) wk_X5_170 dX5_fingerprint_0 ?_
  refine z_lstore_n hx hn (lv' := [(1, .long (zl 151)), (0, .ref (z_ad (z_g C) 62))]) dX5_fingerprint_3 (by decide) rfl ?_
  refine z_iconst hx (n := 0) dX5_fingerprint_4 ?_
  refine z_istore_n hx hn (lv' := [(3, .int (zi 0)), (1, .long (zl 151)), (0, .ref (z_ad (z_g C) 62))]) dX5_fingerprint_5 (by decide) rfl ?_
  refine z_sub [2, 1, 0] rfl ?_
  exact w_X5_fingerprint_l6 hx hn hR hq z_fuel σ 151 0 h

theorem met_X5_fingerprint (l : Launch) (g : zG) (hg : g.1 = 0) {σ : zS} {rr : Int × zS} (h : f_X5_fingerprint σ = some rr) : z_Met l yX5_fingerprint cX5_fingerprint 4 (some .long) rm_X5_fingerprint g [.ref (z_ad (g) 62)] σ (z_QL g rr.1 rr.2) := by
  refine z_enter (own := RX5) (sd := 0) (lv0 := [(0, .ref (z_ad (g) 62))]) (by decide) rfl (Nat.le_of_ble_eq_true rfl) hg rfl (fun C hx hl hgC hR hn hq => ?_)
  subst hgC
  refine z_sub [0] rfl ?_
  exact w_X5_fingerprint hx hn hR hq σ h
