/-! walks, by program: the reference -/
theorem dX6_level_0 : decode cX6_level 0 = .ok (.iload_n 1, 1) := by decide +kernel
theorem dX6_level_1 : decode cX6_level 1 = .ok (.iconst 0, 1) := by decide +kernel
theorem dX6_level_2 : decode cX6_level 2 = .ok (.aload_n 0, 1) := by decide +kernel
theorem dX6_level_3 : decode cX6_level 3 = .ok (.getfield 7, 3) := by decide +kernel
theorem dX6_level_6 : decode cX6_level 6 = .ok (.bipush 7, 2) := by decide +kernel
theorem dX6_level_8 : decode cX6_level 8 = .ok (.iaload, 1) := by decide +kernel
theorem dX6_level_9 : decode cX6_level 9 = .ok (.iconst 1, 1) := by decide +kernel
theorem dX6_level_10 : decode cX6_level 10 = .ok (.isub, 1) := by decide +kernel
theorem dX6_level_11 : decode cX6_level 11 = .ok (.invokestatic 41, 3) := by decide +kernel
theorem dX6_level_14 : decode cX6_level 14 = .ok (.ifCond .eq 15, 3) := by decide +kernel
theorem dX6_level_17 : decode cX6_level 17 = .ok (.aload_n 0, 1) := by decide +kernel
theorem dX6_level_18 : decode cX6_level 18 = .ok (.getfield 7, 3) := by decide +kernel
theorem dX6_level_21 : decode cX6_level 21 = .ok (.bipush 10, 2) := by decide +kernel
theorem dX6_level_23 : decode cX6_level 23 = .ok (.iload_n 1, 1) := by decide +kernel
theorem dX6_level_24 : decode cX6_level 24 = .ok (.iadd, 1) := by decide +kernel
theorem dX6_level_25 : decode cX6_level 25 = .ok (.iaload, 1) := by decide +kernel
theorem dX6_level_26 : decode cX6_level 26 = .ok (.goto 4, 3) := by decide +kernel
theorem dX6_level_29 : decode cX6_level 29 = .ok (.iconst (-1), 1) := by decide +kernel
theorem dX6_level_30 : decode cX6_level 30 = .ok (.ireturn, 1) := by decide +kernel
abbrev rm_X6_level : Room := { frames := 1, cells := 0, slots := 0, locals := 22 }
theorem w_X6_level_b30 {C : zC} (hx : z_ok C cX6_level RX6 1) (hn : z_nL C = 2) (hR : z_R C = rm_X6_level) {rr : Int × zS} (hq : z_fin C (some .int) (z_QI (z_g C) rr.1 rr.2)) (σ : zS) (s0 : Int) (h : f_X6_level_b30 σ s0 = some rr) : z_W C σ 30 [] [.int (zi s0)] := by
  unfold f_X6_level_b30 at h
  cases h
  exact z_iret hx hq dX6_level_30

theorem w_X6_level {C : zC} (hx : z_ok C cX6_level RX6 1) (hn : z_nL C = 2) (hR : z_R C = rm_X6_level) {rr : Int × zS} (hq : z_fin C (some .int) (z_QI (z_g C) rr.1 rr.2)) (σ : zS) (x1 : Int) (h : f_X6_level σ x1 = some rr) : z_W C σ 0 [(0, .ref (z_ad (z_g C) 0)), (1, .int (zi x1))] [] := by
  unfold f_X6_level at h
  refine z_iload_n hx 1 dX6_level_0 rfl ?_
  refine z_iconst hx (n := 0) dX6_level_1 ?_
  refine z_aload_n hx 0 dX6_level_2 rfl ?_
  refine gf_X6_v hx wf_X6_7 dX6_level_3 ?_
  refine z_bipush hx (n := 7) dX6_level_6 rfl ?_
  refine z_iald hx (n := 320) (z_lt1 (z_ok_sd hx) (by decide)) (z_kc1 (z_ok_sd hx) _) rfl (by decide) dX6_level_8 h (fun h => ?_)
  refine z_iconst hx (n := 1) dX6_level_9 ?_
  refine z_isub hx dX6_level_10 ?_
  obtain ⟨r2, σ1, h11, h⟩ := z_bind_some h
  refine z_calls hx (As := [.int (zi x1), .int (zi 0), .int (zi ((σ 1 7) - 1))]) (met_X6_in (z_l C) (z_g C) (z_ok_sd hx) h11) cv_X6_41 (z_room hR ⟨Nat.le_of_ble_eq_true rfl, Nat.le_of_ble_eq_true rfl⟩) ⟨rfl, rfl⟩ rfl rfl (Nat.le_of_ble_eq_true rfl) dX6_level_11 ?_
  refine z_if_eq hx (tgt := 29) dX6_level_14 (by decide) h (fun h => h) (fun hc h => ?_) (fun hc h => ?_)
  · refine z_iconst hx (n := (-1)) dX6_level_29 ?_
    refine z_sub [] rfl ?_
    exact w_X6_level_b30 hx hn hR hq σ1 (-1) h
  · refine z_aload_n hx 0 dX6_level_17 rfl ?_
    refine gf_X6_v hx wf_X6_7 dX6_level_18 ?_
    refine z_bipush hx (n := 10) dX6_level_21 rfl ?_
    refine z_iload_n hx 1 dX6_level_23 rfl ?_
    refine z_iadd hx dX6_level_24 ?_
    refine z_iald hx (n := 320) (z_lt1 (z_ok_sd hx) (by decide)) (z_kc1 (z_ok_sd hx) _) rfl (by decide) dX6_level_25 h (fun h => ?_)
    refine z_goto hx (tgt := 30) dX6_level_26 (by decide) ?_
    refine z_sub [] rfl ?_
    exact w_X6_level_b30 hx hn hR hq σ1 (σ1 1 (10 + x1)) h

theorem met_X6_level (l : Launch) (g : zG) (hg : g.1 = 1) {σ : zS} {x1 : Int} {rr : Int × zS} (h : f_X6_level σ x1 = some rr) : z_Met l yX6_level cX6_level 2 (some .int) rm_X6_level g [.ref (z_ad (g) 0), .int (zi x1)] σ (z_QI g rr.1 rr.2) := by
  refine z_enter (own := RX6) (sd := 1) (lv0 := [(0, .ref (z_ad (g) 0)), (1, .int (zi x1))]) (by decide) rfl (Nat.le_of_ble_eq_true rfl) hg rfl (fun C hx hl hgC hR hn hq => ?_)
  subst hgC
  refine z_sub [0, 1] rfl ?_
  exact w_X6_level hx hn hR hq σ x1 h
theorem dX6_seam_0 : decode cX6_seam 0 = .ok (.iconst 0, 1) := by decide +kernel
theorem dX6_seam_1 : decode cX6_seam 1 = .ok (.istore 4, 2) := by decide +kernel
theorem dX6_seam_3 : decode cX6_seam 3 = .ok (.iload 4, 2) := by decide +kernel
theorem dX6_seam_5 : decode cX6_seam 5 = .ok (.aload_n 0, 1) := by decide +kernel
theorem dX6_seam_6 : decode cX6_seam 6 = .ok (.getfield 7, 3) := by decide +kernel
theorem dX6_seam_9 : decode cX6_seam 9 = .ok (.iconst 2, 1) := by decide +kernel
theorem dX6_seam_10 : decode cX6_seam 10 = .ok (.iaload, 1) := by decide +kernel
theorem dX6_seam_11 : decode cX6_seam 11 = .ok (.if_icmp .gt 65, 3) := by decide +kernel
theorem dX6_seam_14 : decode cX6_seam 14 = .ok (.iload_n 1, 1) := by decide +kernel
theorem dX6_seam_15 : decode cX6_seam 15 = .ok (.iload 4, 2) := by decide +kernel
theorem dX6_seam_17 : decode cX6_seam 17 = .ok (.isub, 1) := by decide +kernel
theorem dX6_seam_18 : decode cX6_seam 18 = .ok (.iload_n 2, 1) := by decide +kernel
theorem dX6_seam_19 : decode cX6_seam 19 = .ok (.iload_n 3, 1) := by decide +kernel
theorem dX6_seam_20 : decode cX6_seam 20 = .ok (.invokestatic 41, 3) := by decide +kernel
theorem dX6_seam_23 : decode cX6_seam 23 = .ok (.ifCond .eq 19, 3) := by decide +kernel
theorem dX6_seam_26 : decode cX6_seam 26 = .ok (.aload_n 0, 1) := by decide +kernel
theorem dX6_seam_27 : decode cX6_seam 27 = .ok (.iload_n 1, 1) := by decide +kernel
theorem dX6_seam_28 : decode cX6_seam 28 = .ok (.iload 4, 2) := by decide +kernel
theorem dX6_seam_30 : decode cX6_seam 30 = .ok (.isub, 1) := by decide +kernel
theorem dX6_seam_31 : decode cX6_seam 31 = .ok (.invokevirtual 105, 3) := by decide +kernel
theorem dX6_seam_34 : decode cX6_seam 34 = .ok (.ifCond .eq 8, 3) := by decide +kernel
theorem dX6_seam_37 : decode cX6_seam 37 = .ok (.iload_n 1, 1) := by decide +kernel
theorem dX6_seam_38 : decode cX6_seam 38 = .ok (.iload 4, 2) := by decide +kernel
theorem dX6_seam_40 : decode cX6_seam 40 = .ok (.isub, 1) := by decide +kernel
theorem dX6_seam_41 : decode cX6_seam 41 = .ok (.ireturn, 1) := by decide +kernel
theorem dX6_seam_42 : decode cX6_seam 42 = .ok (.iload_n 1, 1) := by decide +kernel
theorem dX6_seam_43 : decode cX6_seam 43 = .ok (.iload 4, 2) := by decide +kernel
theorem dX6_seam_45 : decode cX6_seam 45 = .ok (.iadd, 1) := by decide +kernel
theorem dX6_seam_46 : decode cX6_seam 46 = .ok (.iload_n 2, 1) := by decide +kernel
theorem dX6_seam_47 : decode cX6_seam 47 = .ok (.iload_n 3, 1) := by decide +kernel
theorem dX6_seam_48 : decode cX6_seam 48 = .ok (.invokestatic 41, 3) := by decide +kernel
theorem dX6_seam_51 : decode cX6_seam 51 = .ok (.ifCond .eq 19, 3) := by decide +kernel
theorem dX6_seam_54 : decode cX6_seam 54 = .ok (.aload_n 0, 1) := by decide +kernel
theorem dX6_seam_55 : decode cX6_seam 55 = .ok (.iload_n 1, 1) := by decide +kernel
theorem dX6_seam_56 : decode cX6_seam 56 = .ok (.iload 4, 2) := by decide +kernel
theorem dX6_seam_58 : decode cX6_seam 58 = .ok (.iadd, 1) := by decide +kernel
theorem dX6_seam_59 : decode cX6_seam 59 = .ok (.invokevirtual 105, 3) := by decide +kernel
theorem dX6_seam_62 : decode cX6_seam 62 = .ok (.ifCond .eq 8, 3) := by decide +kernel
theorem dX6_seam_65 : decode cX6_seam 65 = .ok (.iload_n 1, 1) := by decide +kernel
theorem dX6_seam_66 : decode cX6_seam 66 = .ok (.iload 4, 2) := by decide +kernel
theorem dX6_seam_68 : decode cX6_seam 68 = .ok (.iadd, 1) := by decide +kernel
theorem dX6_seam_69 : decode cX6_seam 69 = .ok (.ireturn, 1) := by decide +kernel
theorem dX6_seam_70 : decode cX6_seam 70 = .ok (.iinc 4 1, 3) := by decide +kernel
theorem dX6_seam_73 : decode cX6_seam 73 = .ok (.goto (-70), 3) := by decide +kernel
theorem dX6_seam_76 : decode cX6_seam 76 = .ok (.bipush (-9), 2) := by decide +kernel
theorem dX6_seam_78 : decode cX6_seam 78 = .ok (.ireturn, 1) := by decide +kernel
abbrev rm_X6_seam : Room := { frames := 3, cells := 0, slots := 0, locals := 64 }
theorem w_X6_seam_b70 {C : zC} (hx : z_ok C cX6_seam RX6 1) (hn : z_nL C = 5) (hR : z_R C = rm_X6_seam) {rr : Int × zS} (hq : z_fin C (some .int) (z_QI (z_g C) rr.1 rr.2)) {K3 : zS → Int → Int → Int → Int → Option (Int × zS)} (hK3 : ∀ (σ : zS) (x1 : Int) (x2 : Int) (x3 : Int) (x4 : Int) , K3 σ x1 x2 x3 x4 = some rr → z_W C σ 3 [(0, .ref (z_ad (z_g C) 0)), (1, .int (zi x1)), (2, .int (zi x2)), (3, .int (zi x3)), (4, .int (zi x4))] []) (σ : zS) (x1 : Int) (x2 : Int) (x3 : Int) (x4 : Int) (h : f_X6_seam_b70 K3 σ x1 x2 x3 x4 = some rr) : z_W C σ 70 [(0, .ref (z_ad (z_g C) 0)), (1, .int (zi x1)), (2, .int (zi x2)), (3, .int (zi x3)), (4, .int (zi x4))] [] := by
  unfold f_X6_seam_b70 at h
  refine z_iinc hx hn 4 (lv' := [(4, .int (zi (x4 + 1))), (0, .ref (z_ad (z_g C) 0)), (1, .int (zi x1)), (2, .int (zi x2)), (3, .int (zi x3))]) dX6_seam_70 rfl (by decide) rfl ?_
  refine z_goto hx (tgt := 3) dX6_seam_73 (by decide) ?_
  refine z_sub [1, 2, 3, 4, 0] rfl ?_
  exact hK3 σ x1 x2 x3 (x4 + 1) h

theorem w_X6_seam_b42 {C : zC} (hx : z_ok C cX6_seam RX6 1) (hn : z_nL C = 5) (hR : z_R C = rm_X6_seam) {rr : Int × zS} (hq : z_fin C (some .int) (z_QI (z_g C) rr.1 rr.2)) {K3 : zS → Int → Int → Int → Int → Option (Int × zS)} (hK3 : ∀ (σ : zS) (x1 : Int) (x2 : Int) (x3 : Int) (x4 : Int) , K3 σ x1 x2 x3 x4 = some rr → z_W C σ 3 [(0, .ref (z_ad (z_g C) 0)), (1, .int (zi x1)), (2, .int (zi x2)), (3, .int (zi x3)), (4, .int (zi x4))] []) (σ : zS) (x1 : Int) (x2 : Int) (x3 : Int) (x4 : Int) (h : f_X6_seam_b42 K3 σ x1 x2 x3 x4 = some rr) : z_W C σ 42 [(0, .ref (z_ad (z_g C) 0)), (1, .int (zi x1)), (2, .int (zi x2)), (3, .int (zi x3)), (4, .int (zi x4))] [] := by
  unfold f_X6_seam_b42 at h
  refine z_iload_n hx 1 dX6_seam_42 rfl ?_
  refine z_iload hx 4 dX6_seam_43 rfl ?_
  refine z_iadd hx dX6_seam_45 ?_
  refine z_iload_n hx 2 dX6_seam_46 rfl ?_
  refine z_iload_n hx 3 dX6_seam_47 rfl ?_
  obtain ⟨r2, σ1, h48, h⟩ := z_bind_some h
  refine z_calls hx (As := [.int (zi (x1 + x4)), .int (zi x2), .int (zi x3)]) (met_X6_in (z_l C) (z_g C) (z_ok_sd hx) h48) cv_X6_41 (z_room hR ⟨Nat.le_of_ble_eq_true rfl, Nat.le_of_ble_eq_true rfl⟩) ⟨rfl, rfl⟩ rfl rfl (Nat.le_of_ble_eq_true rfl) dX6_seam_48 ?_
  refine z_if_eq hx (tgt := 70) dX6_seam_51 (by decide) h (fun h => h) (fun hc h => ?_) (fun hc h => ?_)
  · refine z_sub [0, 1, 2, 3, 4] rfl ?_
    exact w_X6_seam_b70 hx hn hR hq hK3 σ1 x1 x2 x3 x4 h
  · refine z_aload_n hx 0 dX6_seam_54 rfl ?_
    refine z_iload_n hx 1 dX6_seam_55 rfl ?_
    refine z_iload hx 4 dX6_seam_56 rfl ?_
    refine z_iadd hx dX6_seam_58 ?_
    obtain ⟨r4, σ3, h59, h⟩ := z_bind_some h
    refine z_calli hx (As := [.int (zi (x1 + x4))]) (k := 0) (met_X6_isQuiet (z_l C) (z_g C) (z_ok_sd hx) h59) (z_lt1 (z_ok_sd hx) (by decide)) (z_kc0 (z_ok_sd hx) _) rfl rfl cv_X6_105 (z_room hR ⟨Nat.le_of_ble_eq_true rfl, Nat.le_of_ble_eq_true rfl⟩) ⟨rfl, rfl⟩ rfl rfl (Nat.le_of_ble_eq_true rfl) dX6_seam_59 ?_
    refine z_if_eq hx (tgt := 70) dX6_seam_62 (by decide) h (fun h => h) (fun hc h => ?_) (fun hc h => ?_)
    · refine z_sub [0, 1, 2, 3, 4] rfl ?_
      exact w_X6_seam_b70 hx hn hR hq hK3 σ3 x1 x2 x3 x4 h
    · refine z_iload_n hx 1 dX6_seam_65 rfl ?_
      refine z_iload hx 4 dX6_seam_66 rfl ?_
      refine z_iadd hx dX6_seam_68 ?_
      cases h
      exact z_iret hx hq dX6_seam_69

theorem w_X6_seam_b3 {C : zC} (hx : z_ok C cX6_seam RX6 1) (hn : z_nL C = 5) (hR : z_R C = rm_X6_seam) {rr : Int × zS} (hq : z_fin C (some .int) (z_QI (z_g C) rr.1 rr.2)) {K3 : zS → Int → Int → Int → Int → Option (Int × zS)} (hK3 : ∀ (σ : zS) (x1 : Int) (x2 : Int) (x3 : Int) (x4 : Int) , K3 σ x1 x2 x3 x4 = some rr → z_W C σ 3 [(0, .ref (z_ad (z_g C) 0)), (1, .int (zi x1)), (2, .int (zi x2)), (3, .int (zi x3)), (4, .int (zi x4))] []) (σ : zS) (x1 : Int) (x2 : Int) (x3 : Int) (x4 : Int) (h : f_X6_seam_b3 K3 σ x1 x2 x3 x4 = some rr) : z_W C σ 3 [(0, .ref (z_ad (z_g C) 0)), (1, .int (zi x1)), (2, .int (zi x2)), (3, .int (zi x3)), (4, .int (zi x4))] [] := by
  unfold f_X6_seam_b3 at h
  refine z_iload hx 4 dX6_seam_3 rfl ?_
  refine z_aload_n hx 0 dX6_seam_5 rfl ?_
  refine gf_X6_v hx wf_X6_7 dX6_seam_6 ?_
  refine z_iconst hx (n := 2) dX6_seam_9 ?_
  refine z_iald hx (n := 320) (z_lt1 (z_ok_sd hx) (by decide)) (z_kc1 (z_ok_sd hx) _) rfl (by decide) dX6_seam_10 h (fun h => ?_)
  refine z_icmp_gt hx (tgt := 76) dX6_seam_11 (by decide) h (fun h => h) (fun hc h => ?_) (fun hc h => ?_)
  · refine z_bipush hx (n := (-9)) dX6_seam_76 rfl ?_
    cases h
    exact z_iret hx hq dX6_seam_78
  · refine z_iload_n hx 1 dX6_seam_14 rfl ?_
    refine z_iload hx 4 dX6_seam_15 rfl ?_
    refine z_isub hx dX6_seam_17 ?_
    refine z_iload_n hx 2 dX6_seam_18 rfl ?_
    refine z_iload_n hx 3 dX6_seam_19 rfl ?_
    obtain ⟨r2, σ1, h20, h⟩ := z_bind_some h
    refine z_calls hx (As := [.int (zi (x1 - x4)), .int (zi x2), .int (zi x3)]) (met_X6_in (z_l C) (z_g C) (z_ok_sd hx) h20) cv_X6_41 (z_room hR ⟨Nat.le_of_ble_eq_true rfl, Nat.le_of_ble_eq_true rfl⟩) ⟨rfl, rfl⟩ rfl rfl (Nat.le_of_ble_eq_true rfl) dX6_seam_20 ?_
    refine z_if_eq hx (tgt := 42) dX6_seam_23 (by decide) h (fun h => h) (fun hc h => ?_) (fun hc h => ?_)
    · refine z_sub [0, 1, 2, 3, 4] rfl ?_
      exact w_X6_seam_b42 hx hn hR hq hK3 σ1 x1 x2 x3 x4 h
    · refine z_aload_n hx 0 dX6_seam_26 rfl ?_
      refine z_iload_n hx 1 dX6_seam_27 rfl ?_
      refine z_iload hx 4 dX6_seam_28 rfl ?_
      refine z_isub hx dX6_seam_30 ?_
      obtain ⟨r4, σ3, h31, h⟩ := z_bind_some h
      refine z_calli hx (As := [.int (zi (x1 - x4))]) (k := 0) (met_X6_isQuiet (z_l C) (z_g C) (z_ok_sd hx) h31) (z_lt1 (z_ok_sd hx) (by decide)) (z_kc0 (z_ok_sd hx) _) rfl rfl cv_X6_105 (z_room hR ⟨Nat.le_of_ble_eq_true rfl, Nat.le_of_ble_eq_true rfl⟩) ⟨rfl, rfl⟩ rfl rfl (Nat.le_of_ble_eq_true rfl) dX6_seam_31 ?_
      refine z_if_eq hx (tgt := 42) dX6_seam_34 (by decide) h (fun h => h) (fun hc h => ?_) (fun hc h => ?_)
      · refine z_sub [0, 1, 2, 3, 4] rfl ?_
        exact w_X6_seam_b42 hx hn hR hq hK3 σ3 x1 x2 x3 x4 h
      · refine z_iload_n hx 1 dX6_seam_37 rfl ?_
        refine z_iload hx 4 dX6_seam_38 rfl ?_
        refine z_isub hx dX6_seam_40 ?_
        cases h
        exact z_iret hx hq dX6_seam_41

theorem w_X6_seam_l3 {C : zC} (hx : z_ok C cX6_seam RX6 1) (hn : z_nL C = 5) (hR : z_R C = rm_X6_seam) {rr : Int × zS} (hq : z_fin C (some .int) (z_QI (z_g C) rr.1 rr.2)) : ∀ (n : Nat) (σ : zS) (x1 : Int) (x2 : Int) (x3 : Int) (x4 : Int) (_ : f_X6_seam_l3 n σ x1 x2 x3 x4 = some rr), z_W C σ 3 [(0, .ref (z_ad (z_g C) 0)), (1, .int (zi x1)), (2, .int (zi x2)), (3, .int (zi x3)), (4, .int (zi x4))] [] := by
  intro n
  induction n with
  | zero => intro σ x1 x2 x3 x4 h; cases h
  | succ n ih =>
    intro σ x1 x2 x3 x4 h
    exact w_X6_seam_b3 hx hn hR hq ih σ x1 x2 x3 x4 h
theorem w_X6_seam {C : zC} (hx : z_ok C cX6_seam RX6 1) (hn : z_nL C = 5) (hR : z_R C = rm_X6_seam) {rr : Int × zS} (hq : z_fin C (some .int) (z_QI (z_g C) rr.1 rr.2)) (σ : zS) (x1 : Int) (x2 : Int) (x3 : Int) (h : f_X6_seam σ x1 x2 x3 = some rr) : z_W C σ 0 [(0, .ref (z_ad (z_g C) 0)), (1, .int (zi x1)), (2, .int (zi x2)), (3, .int (zi x3))] [] := by
  unfold f_X6_seam at h
  refine z_iconst hx (n := 0) dX6_seam_0 ?_
  refine z_istore hx hn (lv' := [(4, .int (zi 0)), (0, .ref (z_ad (z_g C) 0)), (1, .int (zi x1)), (2, .int (zi x2)), (3, .int (zi x3))]) dX6_seam_1 (by decide) rfl ?_
  refine z_sub [1, 2, 3, 4, 0] rfl ?_
  exact w_X6_seam_l3 hx hn hR hq z_fuel σ x1 x2 x3 0 h

theorem met_X6_seam (l : Launch) (g : zG) (hg : g.1 = 1) {σ : zS} {x1 : Int} {x2 : Int} {x3 : Int} {rr : Int × zS} (h : f_X6_seam σ x1 x2 x3 = some rr) : z_Met l yX6_seam cX6_seam 5 (some .int) rm_X6_seam g [.ref (z_ad (g) 0), .int (zi x1), .int (zi x2), .int (zi x3)] σ (z_QI g rr.1 rr.2) := by
  refine z_enter (own := RX6) (sd := 1) (lv0 := [(0, .ref (z_ad (g) 0)), (1, .int (zi x1)), (2, .int (zi x2)), (3, .int (zi x3))]) (by decide) rfl (Nat.le_of_ble_eq_true rfl) hg rfl (fun C hx hl hgC hR hn hq => ?_)
  subst hgC
  refine z_sub [0, 1, 2, 3] rfl ?_
  exact w_X6_seam hx hn hR hq σ x1 x2 x3 h
theorem dX6_lays_0 : decode cX6_lays 0 = .ok (.iconst 5, 1) := by decide +kernel
theorem dX6_lays_1 : decode cX6_lays 1 = .ok (.aload_n 0, 1) := by decide +kernel
theorem dX6_lays_2 : decode cX6_lays 2 = .ok (.getfield 108, 3) := by decide +kernel
theorem dX6_lays_5 : decode cX6_lays 5 = .ok (.imul, 1) := by decide +kernel
theorem dX6_lays_6 : decode cX6_lays 6 = .ok (.istore 6, 2) := by decide +kernel
theorem dX6_lays_8 : decode cX6_lays 8 = .ok (.aload_n 0, 1) := by decide +kernel
theorem dX6_lays_9 : decode cX6_lays 9 = .ok (.getfield 25, 3) := by decide +kernel
theorem dX6_lays_12 : decode cX6_lays 12 = .ok (.iload 6, 2) := by decide +kernel
theorem dX6_lays_14 : decode cX6_lays 14 = .ok (.iload_n 1, 1) := by decide +kernel
theorem dX6_lays_15 : decode cX6_lays 15 = .ok (.iastore, 1) := by decide +kernel
theorem dX6_lays_16 : decode cX6_lays 16 = .ok (.aload_n 0, 1) := by decide +kernel
theorem dX6_lays_17 : decode cX6_lays 17 = .ok (.getfield 25, 3) := by decide +kernel
theorem dX6_lays_20 : decode cX6_lays 20 = .ok (.iload 6, 2) := by decide +kernel
theorem dX6_lays_22 : decode cX6_lays 22 = .ok (.iconst 1, 1) := by decide +kernel
theorem dX6_lays_23 : decode cX6_lays 23 = .ok (.iadd, 1) := by decide +kernel
theorem dX6_lays_24 : decode cX6_lays 24 = .ok (.iload_n 2, 1) := by decide +kernel
theorem dX6_lays_25 : decode cX6_lays 25 = .ok (.iastore, 1) := by decide +kernel
theorem dX6_lays_26 : decode cX6_lays 26 = .ok (.aload_n 0, 1) := by decide +kernel
theorem dX6_lays_27 : decode cX6_lays 27 = .ok (.getfield 25, 3) := by decide +kernel
theorem dX6_lays_30 : decode cX6_lays 30 = .ok (.iload 6, 2) := by decide +kernel
theorem dX6_lays_32 : decode cX6_lays 32 = .ok (.iconst 2, 1) := by decide +kernel
theorem dX6_lays_33 : decode cX6_lays 33 = .ok (.iadd, 1) := by decide +kernel
theorem dX6_lays_34 : decode cX6_lays 34 = .ok (.iload_n 3, 1) := by decide +kernel
theorem dX6_lays_35 : decode cX6_lays 35 = .ok (.iastore, 1) := by decide +kernel
theorem dX6_lays_36 : decode cX6_lays 36 = .ok (.aload_n 0, 1) := by decide +kernel
theorem dX6_lays_37 : decode cX6_lays 37 = .ok (.getfield 25, 3) := by decide +kernel
theorem dX6_lays_40 : decode cX6_lays 40 = .ok (.iload 6, 2) := by decide +kernel
theorem dX6_lays_42 : decode cX6_lays 42 = .ok (.iconst 3, 1) := by decide +kernel
theorem dX6_lays_43 : decode cX6_lays 43 = .ok (.iadd, 1) := by decide +kernel
theorem dX6_lays_44 : decode cX6_lays 44 = .ok (.iload 4, 2) := by decide +kernel
theorem dX6_lays_46 : decode cX6_lays 46 = .ok (.iastore, 1) := by decide +kernel
theorem dX6_lays_47 : decode cX6_lays 47 = .ok (.aload_n 0, 1) := by decide +kernel
theorem dX6_lays_48 : decode cX6_lays 48 = .ok (.getfield 25, 3) := by decide +kernel
theorem dX6_lays_51 : decode cX6_lays 51 = .ok (.iload 6, 2) := by decide +kernel
theorem dX6_lays_53 : decode cX6_lays 53 = .ok (.iconst 4, 1) := by decide +kernel
theorem dX6_lays_54 : decode cX6_lays 54 = .ok (.iadd, 1) := by decide +kernel
theorem dX6_lays_55 : decode cX6_lays 55 = .ok (.iload 5, 2) := by decide +kernel
theorem dX6_lays_57 : decode cX6_lays 57 = .ok (.iastore, 1) := by decide +kernel
theorem dX6_lays_58 : decode cX6_lays 58 = .ok (.aload_n 0, 1) := by decide +kernel
theorem dX6_lays_59 : decode cX6_lays 59 = .ok (.dup, 1) := by decide +kernel
theorem dX6_lays_60 : decode cX6_lays 60 = .ok (.getfield 108, 3) := by decide +kernel
theorem dX6_lays_63 : decode cX6_lays 63 = .ok (.iconst 1, 1) := by decide +kernel
theorem dX6_lays_64 : decode cX6_lays 64 = .ok (.iadd, 1) := by decide +kernel
theorem dX6_lays_65 : decode cX6_lays 65 = .ok (.putfield 108, 3) := by decide +kernel
theorem dX6_lays_68 : decode cX6_lays 68 = .ok (.return_, 1) := by decide +kernel
abbrev rm_X6_lays : Room := { frames := 0, cells := 0, slots := 0, locals := 0 }
theorem w_X6_lays {C : zC} (hx : z_ok C cX6_lays RX6 1) (hn : z_nL C = 7) (hR : z_R C = rm_X6_lays) {rr : Unit × zS} (hq : z_fin C none (z_QV (z_g C) rr.2)) (σ : zS) (x1 : Int) (x2 : Int) (x3 : Int) (x4 : Int) (x5 : Int) (h : f_X6_lays σ x1 x2 x3 x4 x5 = some rr) : z_W C σ 0 [(0, .ref (z_ad (z_g C) 0)), (1, .int (zi x1)), (2, .int (zi x2)), (3, .int (zi x3)), (4, .int (zi x4)), (5, .int (zi x5))] [] := by
  unfold f_X6_lays at h
  refine z_iconst hx (n := 5) dX6_lays_0 ?_
  refine z_aload_n hx 0 dX6_lays_1 rfl ?_
  refine gf_X6_cutMany hx wf_X6_108 dX6_lays_2 ?_
  refine z_imul hx dX6_lays_5 ?_
  refine z_istore hx hn (lv' := [(6, .int (zi (5 * (σ 0 12)))), (0, .ref (z_ad (z_g C) 0)), (1, .int (zi x1)), (2, .int (zi x2)), (3, .int (zi x3)), (4, .int (zi x4)), (5, .int (zi x5))]) dX6_lays_6 (by decide) rfl ?_
  refine z_aload_n hx 1 dX6_lays_8 rfl ?_
  refine gf_X6_cut hx wf_X6_25 dX6_lays_9 ?_
  refine z_iload hx 0 dX6_lays_12 rfl ?_
  refine z_iload_n hx 2 dX6_lays_14 rfl ?_
  refine z_iast hx (n := 100) (z_lt1 (z_ok_sd hx) (by decide)) (z_kc6 (z_ok_sd hx)) rfl (by decide) dX6_lays_15 h (fun σ1 h => ?_)
  refine z_aload_n hx 1 dX6_lays_16 rfl ?_
  refine gf_X6_cut hx wf_X6_25 dX6_lays_17 ?_
  refine z_iload hx 0 dX6_lays_20 rfl ?_
  refine z_iconst hx (n := 1) dX6_lays_22 ?_
  refine z_iadd hx dX6_lays_23 ?_
  refine z_iload_n hx 3 dX6_lays_24 rfl ?_
  refine z_iast hx (n := 100) (z_lt1 (z_ok_sd hx) (by decide)) (z_kc6 (z_ok_sd hx)) rfl (by decide) dX6_lays_25 h (fun σ2 h => ?_)
  refine z_aload_n hx 1 dX6_lays_26 rfl ?_
  refine gf_X6_cut hx wf_X6_25 dX6_lays_27 ?_
  refine z_iload hx 0 dX6_lays_30 rfl ?_
  refine z_iconst hx (n := 2) dX6_lays_32 ?_
  refine z_iadd hx dX6_lays_33 ?_
  refine z_iload_n hx 4 dX6_lays_34 rfl ?_
  refine z_iast hx (n := 100) (z_lt1 (z_ok_sd hx) (by decide)) (z_kc6 (z_ok_sd hx)) rfl (by decide) dX6_lays_35 h (fun σ3 h => ?_)
  refine z_aload_n hx 1 dX6_lays_36 rfl ?_
  refine gf_X6_cut hx wf_X6_25 dX6_lays_37 ?_
  refine z_iload hx 0 dX6_lays_40 rfl ?_
  refine z_iconst hx (n := 3) dX6_lays_42 ?_
  refine z_iadd hx dX6_lays_43 ?_
  refine z_iload hx 5 dX6_lays_44 rfl ?_
  refine z_iast hx (n := 100) (z_lt1 (z_ok_sd hx) (by decide)) (z_kc6 (z_ok_sd hx)) rfl (by decide) dX6_lays_46 h (fun σ4 h => ?_)
  refine z_aload_n hx 1 dX6_lays_47 rfl ?_
  refine gf_X6_cut hx wf_X6_25 dX6_lays_48 ?_
  refine z_iload hx 0 dX6_lays_51 rfl ?_
  refine z_iconst hx (n := 4) dX6_lays_53 ?_
  refine z_iadd hx dX6_lays_54 ?_
  refine z_iload hx 6 dX6_lays_55 rfl ?_
  refine z_iast hx (n := 100) (z_lt1 (z_ok_sd hx) (by decide)) (z_kc6 (z_ok_sd hx)) rfl (by decide) dX6_lays_57 h (fun σ5 h => ?_)
  refine z_aload_n hx 1 dX6_lays_58 rfl ?_
  refine z_dup hx dX6_lays_59 rfl ?_
  refine gf_X6_cutMany hx wf_X6_108 dX6_lays_60 ?_
  refine z_iconst hx (n := 1) dX6_lays_63 ?_
  refine z_iadd hx dX6_lays_64 ?_
  refine pf_X6_cutMany hx wf_X6_108 dX6_lays_65 h (fun σ6 h => ?_)
  cases h
  exact z_vret hx hq dX6_lays_68

theorem met_X6_lays (l : Launch) (g : zG) (hg : g.1 = 1) {σ : zS} {x1 : Int} {x2 : Int} {x3 : Int} {x4 : Int} {x5 : Int} {rr : Unit × zS} (h : f_X6_lays σ x1 x2 x3 x4 x5 = some rr) : z_Met l yX6_lays cX6_lays 7 none rm_X6_lays g [.ref (z_ad (g) 0), .int (zi x1), .int (zi x2), .int (zi x3), .int (zi x4), .int (zi x5)] σ (z_QV g rr.2) := by
  refine z_enter (own := RX6) (sd := 1) (lv0 := [(0, .ref (z_ad (g) 0)), (1, .int (zi x1)), (2, .int (zi x2)), (3, .int (zi x3)), (4, .int (zi x4)), (5, .int (zi x5))]) (by decide) rfl (Nat.le_of_ble_eq_true rfl) hg rfl (fun C hx hl hgC hR hn hq => ?_)
  subst hgC
  refine z_sub [0, 1, 2, 3, 4, 5] rfl ?_
  exact w_X6_lays hx hn hR hq σ x1 x2 x3 x4 x5 h
theorem dX6_fills_0 : decode cX6_fills 0 = .ok (.aload_n 0, 1) := by decide +kernel
theorem dX6_fills_1 : decode cX6_fills 1 = .ok (.iload_n 1, 1) := by decide +kernel
theorem dX6_fills_2 : decode cX6_fills 2 = .ok (.iconst 1, 1) := by decide +kernel
theorem dX6_fills_3 : decode cX6_fills 3 = .ok (.invokevirtual 92, 3) := by decide +kernel
theorem dX6_fills_6 : decode cX6_fills 6 = .ok (.istore_n 2, 1) := by decide +kernel
theorem dX6_fills_7 : decode cX6_fills 7 = .ok (.aload_n 0, 1) := by decide +kernel
theorem dX6_fills_8 : decode cX6_fills 8 = .ok (.iload_n 1, 1) := by decide +kernel
theorem dX6_fills_9 : decode cX6_fills 9 = .ok (.iconst 2, 1) := by decide +kernel
theorem dX6_fills_10 : decode cX6_fills 10 = .ok (.invokevirtual 92, 3) := by decide +kernel
theorem dX6_fills_13 : decode cX6_fills 13 = .ok (.istore_n 3, 1) := by decide +kernel
theorem dX6_fills_14 : decode cX6_fills 14 = .ok (.iload_n 1, 1) := by decide +kernel
theorem dX6_fills_15 : decode cX6_fills 15 = .ok (.ifCond .ne 7, 3) := by decide +kernel
theorem dX6_fills_18 : decode cX6_fills 18 = .ok (.iconst 0, 1) := by decide +kernel
theorem dX6_fills_19 : decode cX6_fills 19 = .ok (.goto 11, 3) := by decide +kernel
theorem dX6_fills_22 : decode cX6_fills 22 = .ok (.aload_n 0, 1) := by decide +kernel
theorem dX6_fills_23 : decode cX6_fills 23 = .ok (.iload_n 1, 1) := by decide +kernel
theorem dX6_fills_24 : decode cX6_fills 24 = .ok (.iconst 1, 1) := by decide +kernel
theorem dX6_fills_25 : decode cX6_fills 25 = .ok (.isub, 1) := by decide +kernel
theorem dX6_fills_26 : decode cX6_fills 26 = .ok (.iconst 2, 1) := by decide +kernel
theorem dX6_fills_27 : decode cX6_fills 27 = .ok (.invokevirtual 92, 3) := by decide +kernel
theorem dX6_fills_30 : decode cX6_fills 30 = .ok (.istore 4, 2) := by decide +kernel
theorem dX6_fills_32 : decode cX6_fills 32 = .ok (.aload_n 0, 1) := by decide +kernel
theorem dX6_fills_33 : decode cX6_fills 33 = .ok (.getfield 108, 3) := by decide +kernel
theorem dX6_fills_36 : decode cX6_fills 36 = .ok (.ifCond .le 37, 3) := by decide +kernel
theorem dX6_fills_39 : decode cX6_fills 39 = .ok (.aload_n 0, 1) := by decide +kernel
theorem dX6_fills_40 : decode cX6_fills 40 = .ok (.getfield 25, 3) := by decide +kernel
theorem dX6_fills_43 : decode cX6_fills 43 = .ok (.iconst 5, 1) := by decide +kernel
theorem dX6_fills_44 : decode cX6_fills 44 = .ok (.aload_n 0, 1) := by decide +kernel
theorem dX6_fills_45 : decode cX6_fills 45 = .ok (.getfield 108, 3) := by decide +kernel
theorem dX6_fills_48 : decode cX6_fills 48 = .ok (.imul, 1) := by decide +kernel
theorem dX6_fills_49 : decode cX6_fills 49 = .ok (.iconst 4, 1) := by decide +kernel
theorem dX6_fills_50 : decode cX6_fills 50 = .ok (.isub, 1) := by decide +kernel
theorem dX6_fills_51 : decode cX6_fills 51 = .ok (.iaload, 1) := by decide +kernel
theorem dX6_fills_52 : decode cX6_fills 52 = .ok (.iload 4, 2) := by decide +kernel
theorem dX6_fills_54 : decode cX6_fills 54 = .ok (.if_icmp .le 19, 3) := by decide +kernel
theorem dX6_fills_57 : decode cX6_fills 57 = .ok (.aload_n 0, 1) := by decide +kernel
theorem dX6_fills_58 : decode cX6_fills 58 = .ok (.getfield 25, 3) := by decide +kernel
theorem dX6_fills_61 : decode cX6_fills 61 = .ok (.iconst 5, 1) := by decide +kernel
theorem dX6_fills_62 : decode cX6_fills 62 = .ok (.aload_n 0, 1) := by decide +kernel
theorem dX6_fills_63 : decode cX6_fills 63 = .ok (.getfield 108, 3) := by decide +kernel
theorem dX6_fills_66 : decode cX6_fills 66 = .ok (.imul, 1) := by decide +kernel
theorem dX6_fills_67 : decode cX6_fills 67 = .ok (.iconst 4, 1) := by decide +kernel
theorem dX6_fills_68 : decode cX6_fills 68 = .ok (.isub, 1) := by decide +kernel
theorem dX6_fills_69 : decode cX6_fills 69 = .ok (.iaload, 1) := by decide +kernel
theorem dX6_fills_70 : decode cX6_fills 70 = .ok (.goto 5, 3) := by decide +kernel
theorem dX6_fills_73 : decode cX6_fills 73 = .ok (.iload 4, 2) := by decide +kernel
theorem dX6_fills_75 : decode cX6_fills 75 = .ok (.istore 4, 2) := by decide +kernel
theorem dX6_fills_77 : decode cX6_fills 77 = .ok (.aload_n 0, 1) := by decide +kernel
theorem dX6_fills_78 : decode cX6_fills 78 = .ok (.iload_n 2, 1) := by decide +kernel
theorem dX6_fills_79 : decode cX6_fills 79 = .ok (.iload 4, 2) := by decide +kernel
theorem dX6_fills_81 : decode cX6_fills 81 = .ok (.iload_n 3, 1) := by decide +kernel
theorem dX6_fills_82 : decode cX6_fills 82 = .ok (.iconst 1, 1) := by decide +kernel
theorem dX6_fills_83 : decode cX6_fills 83 = .ok (.isub, 1) := by decide +kernel
theorem dX6_fills_84 : decode cX6_fills 84 = .ok (.invokevirtual 111, 3) := by decide +kernel
theorem dX6_fills_87 : decode cX6_fills 87 = .ok (.istore 5, 2) := by decide +kernel
theorem dX6_fills_89 : decode cX6_fills 89 = .ok (.iload 5, 2) := by decide +kernel
theorem dX6_fills_91 : decode cX6_fills 91 = .ok (.ifCond .ge 7, 3) := by decide +kernel
theorem dX6_fills_94 : decode cX6_fills 94 = .ok (.iconst 1, 1) := by decide +kernel
theorem dX6_fills_95 : decode cX6_fills 95 = .ok (.goto 4, 3) := by decide +kernel
theorem dX6_fills_98 : decode cX6_fills 98 = .ok (.iconst 0, 1) := by decide +kernel
theorem dX6_fills_99 : decode cX6_fills 99 = .ok (.istore 6, 2) := by decide +kernel
theorem dX6_fills_101 : decode cX6_fills 101 = .ok (.iload 5, 2) := by decide +kernel
theorem dX6_fills_103 : decode cX6_fills 103 = .ok (.ifCond .ge 7, 3) := by decide +kernel
theorem dX6_fills_106 : decode cX6_fills 106 = .ok (.iload_n 2, 1) := by decide +kernel
theorem dX6_fills_107 : decode cX6_fills 107 = .ok (.goto 5, 3) := by decide +kernel
theorem dX6_fills_110 : decode cX6_fills 110 = .ok (.iload 5, 2) := by decide +kernel
theorem dX6_fills_112 : decode cX6_fills 112 = .ok (.istore 5, 2) := by decide +kernel
theorem dX6_fills_114 : decode cX6_fills 114 = .ok (.iload_n 1, 1) := by decide +kernel
theorem dX6_fills_115 : decode cX6_fills 115 = .ok (.iconst 1, 1) := by decide +kernel
theorem dX6_fills_116 : decode cX6_fills 116 = .ok (.iadd, 1) := by decide +kernel
theorem dX6_fills_117 : decode cX6_fills 117 = .ok (.aload_n 0, 1) := by decide +kernel
theorem dX6_fills_118 : decode cX6_fills 118 = .ok (.getfield 7, 3) := by decide +kernel
theorem dX6_fills_121 : decode cX6_fills 121 = .ok (.bipush 8, 2) := by decide +kernel
theorem dX6_fills_123 : decode cX6_fills 123 = .ok (.iaload, 1) := by decide +kernel
theorem dX6_fills_124 : decode cX6_fills 124 = .ok (.if_icmp .ge 14, 3) := by decide +kernel
theorem dX6_fills_127 : decode cX6_fills 127 = .ok (.aload_n 0, 1) := by decide +kernel
theorem dX6_fills_128 : decode cX6_fills 128 = .ok (.iload_n 1, 1) := by decide +kernel
theorem dX6_fills_129 : decode cX6_fills 129 = .ok (.iconst 1, 1) := by decide +kernel
theorem dX6_fills_130 : decode cX6_fills 130 = .ok (.iadd, 1) := by decide +kernel
theorem dX6_fills_131 : decode cX6_fills 131 = .ok (.iconst 1, 1) := by decide +kernel
theorem dX6_fills_132 : decode cX6_fills 132 = .ok (.invokevirtual 92, 3) := by decide +kernel
theorem dX6_fills_135 : decode cX6_fills 135 = .ok (.goto 10, 3) := by decide +kernel
theorem dX6_fills_138 : decode cX6_fills 138 = .ok (.aload_n 0, 1) := by decide +kernel
theorem dX6_fills_139 : decode cX6_fills 139 = .ok (.getfield 7, 3) := by decide +kernel
theorem dX6_fills_142 : decode cX6_fills 142 = .ok (.bipush 7, 2) := by decide +kernel
theorem dX6_fills_144 : decode cX6_fills 144 = .ok (.iaload, 1) := by decide +kernel
theorem dX6_fills_145 : decode cX6_fills 145 = .ok (.istore 7, 2) := by decide +kernel
theorem dX6_fills_147 : decode cX6_fills 147 = .ok (.aload_n 0, 1) := by decide +kernel
theorem dX6_fills_148 : decode cX6_fills 148 = .ok (.iload_n 3, 1) := by decide +kernel
theorem dX6_fills_149 : decode cX6_fills 149 = .ok (.iload 5, 2) := by decide +kernel
theorem dX6_fills_151 : decode cX6_fills 151 = .ok (.iconst 1, 1) := by decide +kernel
theorem dX6_fills_152 : decode cX6_fills 152 = .ok (.iadd, 1) := by decide +kernel
theorem dX6_fills_153 : decode cX6_fills 153 = .ok (.iload 7, 2) := by decide +kernel
theorem dX6_fills_155 : decode cX6_fills 155 = .ok (.invokevirtual 111, 3) := by decide +kernel
theorem dX6_fills_158 : decode cX6_fills 158 = .ok (.istore 8, 2) := by decide +kernel
theorem dX6_fills_160 : decode cX6_fills 160 = .ok (.iload 8, 2) := by decide +kernel
theorem dX6_fills_162 : decode cX6_fills 162 = .ok (.ifCond .ge 7, 3) := by decide +kernel
theorem dX6_fills_165 : decode cX6_fills 165 = .ok (.iconst 1, 1) := by decide +kernel
theorem dX6_fills_166 : decode cX6_fills 166 = .ok (.goto 5, 3) := by decide +kernel
theorem dX6_fills_169 : decode cX6_fills 169 = .ok (.iload 6, 2) := by decide +kernel
theorem dX6_fills_171 : decode cX6_fills 171 = .ok (.istore 6, 2) := by decide +kernel
theorem dX6_fills_173 : decode cX6_fills 173 = .ok (.iload 8, 2) := by decide +kernel
theorem dX6_fills_175 : decode cX6_fills 175 = .ok (.ifCond .ge 7, 3) := by decide +kernel
theorem dX6_fills_178 : decode cX6_fills 178 = .ok (.iload_n 3, 1) := by decide +kernel
theorem dX6_fills_179 : decode cX6_fills 179 = .ok (.goto 5, 3) := by decide +kernel
theorem dX6_fills_182 : decode cX6_fills 182 = .ok (.iload 8, 2) := by decide +kernel
theorem dX6_fills_184 : decode cX6_fills 184 = .ok (.istore 8, 2) := by decide +kernel
theorem dX6_fills_186 : decode cX6_fills 186 = .ok (.iload 8, 2) := by decide +kernel
theorem dX6_fills_188 : decode cX6_fills 188 = .ok (.iload 5, 2) := by decide +kernel
theorem dX6_fills_190 : decode cX6_fills 190 = .ok (.isub, 1) := by decide +kernel
theorem dX6_fills_191 : decode cX6_fills 191 = .ok (.aload_n 0, 1) := by decide +kernel
theorem dX6_fills_192 : decode cX6_fills 192 = .ok (.getfield 7, 3) := by decide +kernel
theorem dX6_fills_195 : decode cX6_fills 195 = .ok (.iconst 4, 1) := by decide +kernel
theorem dX6_fills_196 : decode cX6_fills 196 = .ok (.iaload, 1) := by decide +kernel
theorem dX6_fills_197 : decode cX6_fills 197 = .ok (.imul, 1) := by decide +kernel
theorem dX6_fills_198 : decode cX6_fills 198 = .ok (.bipush 100, 2) := by decide +kernel
theorem dX6_fills_200 : decode cX6_fills 200 = .ok (.idiv, 1) := by decide +kernel
theorem dX6_fills_201 : decode cX6_fills 201 = .ok (.istore 9, 2) := by decide +kernel
theorem dX6_fills_203 : decode cX6_fills 203 = .ok (.aload_n 0, 1) := by decide +kernel
theorem dX6_fills_204 : decode cX6_fills 204 = .ok (.iload 5, 2) := by decide +kernel
theorem dX6_fills_206 : decode cX6_fills 206 = .ok (.iload 8, 2) := by decide +kernel
theorem dX6_fills_208 : decode cX6_fills 208 = .ok (.iload 9, 2) := by decide +kernel
theorem dX6_fills_210 : decode cX6_fills 210 = .ok (.aload_n 0, 1) := by decide +kernel
theorem dX6_fills_211 : decode cX6_fills 211 = .ok (.getfield 7, 3) := by decide +kernel
theorem dX6_fills_214 : decode cX6_fills 214 = .ok (.iconst 3, 1) := by decide +kernel
theorem dX6_fills_215 : decode cX6_fills 215 = .ok (.iaload, 1) := by decide +kernel
theorem dX6_fills_216 : decode cX6_fills 216 = .ok (.if_icmp .ge 8, 3) := by decide +kernel
theorem dX6_fills_219 : decode cX6_fills 219 = .ok (.iload 9, 2) := by decide +kernel
theorem dX6_fills_221 : decode cX6_fills 221 = .ok (.goto 9, 3) := by decide +kernel
theorem dX6_fills_224 : decode cX6_fills 224 = .ok (.aload_n 0, 1) := by decide +kernel
theorem dX6_fills_225 : decode cX6_fills 225 = .ok (.getfield 7, 3) := by decide +kernel
theorem dX6_fills_228 : decode cX6_fills 228 = .ok (.iconst 3, 1) := by decide +kernel
theorem dX6_fills_229 : decode cX6_fills 229 = .ok (.iaload, 1) := by decide +kernel
theorem dX6_fills_230 : decode cX6_fills 230 = .ok (.iload 6, 2) := by decide +kernel
theorem dX6_fills_232 : decode cX6_fills 232 = .ok (.iload_n 1, 1) := by decide +kernel
theorem dX6_fills_233 : decode cX6_fills 233 = .ok (.invokevirtual 115, 3) := by decide +kernel
theorem dX6_fills_236 : decode cX6_fills 236 = .ok (.return_, 1) := by decide +kernel
abbrev rm_X6_fills : Room := { frames := 4, cells := 0, slots := 0, locals := 88 }
theorem w_X6_fills_b230 {C : zC} (hx : z_ok C cX6_fills RX6 1) (hn : z_nL C = 10) (hR : z_R C = rm_X6_fills) {rr : Unit × zS} (hq : z_fin C none (z_QV (z_g C) rr.2)) (σ : zS) (x1 : Int) (x6 : Int) (s1 : Int) (s2 : Int) (s3 : Int) (h : f_X6_fills_b230 σ x1 x6 s1 s2 s3 = some rr) : z_W C σ 230 [(1, .int (zi x1)), (6, .int (zi x6))] [.int (zi s3), .int (zi s2), .int (zi s1), .ref (z_ad (z_g C) 0)] := by
  unfold f_X6_fills_b230 at h
  refine z_iload hx 1 dX6_fills_230 rfl ?_
  refine z_iload_n hx 0 dX6_fills_232 rfl ?_
  obtain ⟨⟨⟩, σ1, h233, h⟩ := z_bind_some h
  refine z_callv hx (As := [.int (zi s1), .int (zi s2), .int (zi s3), .int (zi x6), .int (zi x1)]) (k := 0) (met_X6_lays (z_l C) (z_g C) (z_ok_sd hx) h233) (z_lt1 (z_ok_sd hx) (by decide)) (z_kc0 (z_ok_sd hx) _) rfl rfl cv_X6_115 (z_room hR ⟨Nat.le_of_ble_eq_true rfl, Nat.le_of_ble_eq_true rfl⟩) ⟨rfl, rfl⟩ rfl rfl (Nat.le_of_ble_eq_true rfl) dX6_fills_233 ?_
  cases h
  exact z_vret hx hq dX6_fills_236

theorem w_X6_fills_b184 {C : zC} (hx : z_ok C cX6_fills RX6 1) (hn : z_nL C = 10) (hR : z_R C = rm_X6_fills) {rr : Unit × zS} (hq : z_fin C none (z_QV (z_g C) rr.2)) (σ : zS) (x1 : Int) (x5 : Int) (x6 : Int) (s0 : Int) (h : f_X6_fills_b184 σ x1 x5 x6 s0 = some rr) : z_W C σ 184 [(0, .ref (z_ad (z_g C) 0)), (1, .int (zi x1)), (5, .int (zi x5)), (6, .int (zi x6))] [.int (zi s0)] := by
  unfold f_X6_fills_b184 at h
  refine z_istore hx hn (lv' := [(8, .int (zi s0)), (0, .ref (z_ad (z_g C) 0)), (1, .int (zi x1)), (5, .int (zi x5)), (6, .int (zi x6))]) dX6_fills_184 (by decide) rfl ?_
  refine z_iload hx 0 dX6_fills_186 rfl ?_
  refine z_iload hx 3 dX6_fills_188 rfl ?_
  refine z_isub hx dX6_fills_190 ?_
  refine z_aload_n hx 1 dX6_fills_191 rfl ?_
  refine gf_X6_v hx wf_X6_7 dX6_fills_192 ?_
  refine z_iconst hx (n := 4) dX6_fills_195 ?_
  refine z_iald hx (n := 320) (z_lt1 (z_ok_sd hx) (by decide)) (z_kc1 (z_ok_sd hx) _) rfl (by decide) dX6_fills_196 h (fun h => ?_)
  refine z_imul hx dX6_fills_197 ?_
  refine z_bipush hx (n := 100) dX6_fills_198 rfl ?_
  refine z_idiv hx dX6_fills_200 h (fun h => ?_)
  refine z_istore hx hn (lv' := [(9, .int (zi (((s0 - x5) * (σ 1 4)).tdiv 100))), (8, .int (zi s0)), (0, .ref (z_ad (z_g C) 0)), (1, .int (zi x1)), (5, .int (zi x5)), (6, .int (zi x6))]) dX6_fills_201 (by decide) rfl ?_
  refine z_aload_n hx 2 dX6_fills_203 rfl ?_
  refine z_iload hx 4 dX6_fills_204 rfl ?_
  refine z_iload hx 1 dX6_fills_206 rfl ?_
  refine z_iload hx 0 dX6_fills_208 rfl ?_
  refine z_aload_n hx 2 dX6_fills_210 rfl ?_
  refine gf_X6_v hx wf_X6_7 dX6_fills_211 ?_
  refine z_iconst hx (n := 3) dX6_fills_214 ?_
  refine z_iald hx (n := 320) (z_lt1 (z_ok_sd hx) (by decide)) (z_kc1 (z_ok_sd hx) _) rfl (by decide) dX6_fills_215 h (fun h => ?_)
  refine z_icmp_ge hx (tgt := 224) dX6_fills_216 (by decide) h (fun h => h) (fun hc h => ?_) (fun hc h => ?_)
  · refine z_aload_n hx 2 dX6_fills_224 rfl ?_
    refine gf_X6_v hx wf_X6_7 dX6_fills_225 ?_
    refine z_iconst hx (n := 3) dX6_fills_228 ?_
    refine z_iald hx (n := 320) (z_lt1 (z_ok_sd hx) (by decide)) (z_kc1 (z_ok_sd hx) _) rfl (by decide) dX6_fills_229 h (fun h => ?_)
    refine z_sub [3, 5] rfl ?_
    exact w_X6_fills_b230 hx hn hR hq σ x1 x6 x5 s0 (σ 1 3) h
  · refine z_iload hx 0 dX6_fills_219 rfl ?_
    refine z_goto hx (tgt := 230) dX6_fills_221 (by decide) ?_
    refine z_sub [3, 5] rfl ?_
    exact w_X6_fills_b230 hx hn hR hq σ x1 x6 x5 s0 (((s0 - x5) * (σ 1 4)).tdiv 100) h

theorem w_X6_fills_b171 {C : zC} (hx : z_ok C cX6_fills RX6 1) (hn : z_nL C = 10) (hR : z_R C = rm_X6_fills) {rr : Unit × zS} (hq : z_fin C none (z_QV (z_g C) rr.2)) (σ : zS) (x1 : Int) (x3 : Int) (x5 : Int) (x8 : Int) (s0 : Int) (h : f_X6_fills_b171 σ x1 x3 x5 x8 s0 = some rr) : z_W C σ 171 [(0, .ref (z_ad (z_g C) 0)), (1, .int (zi x1)), (3, .int (zi x3)), (5, .int (zi x5)), (8, .int (zi x8))] [.int (zi s0)] := by
  unfold f_X6_fills_b171 at h
  refine z_istore hx hn (lv' := [(6, .int (zi s0)), (0, .ref (z_ad (z_g C) 0)), (1, .int (zi x1)), (3, .int (zi x3)), (5, .int (zi x5)), (8, .int (zi x8))]) dX6_fills_171 (by decide) rfl ?_
  refine z_iload hx 5 dX6_fills_173 rfl ?_
  refine z_if_ge hx (tgt := 182) dX6_fills_175 (by decide) h (fun h => h) (fun hc h => ?_) (fun hc h => ?_)
  · refine z_iload hx 5 dX6_fills_182 rfl ?_
    refine z_sub [1, 2, 4, 0] rfl ?_
    exact w_X6_fills_b184 hx hn hR hq σ x1 x5 s0 x8 h
  · refine z_iload_n hx 3 dX6_fills_178 rfl ?_
    refine z_goto hx (tgt := 184) dX6_fills_179 (by decide) ?_
    refine z_sub [1, 2, 4, 0] rfl ?_
    exact w_X6_fills_b184 hx hn hR hq σ x1 x5 s0 x3 h

theorem w_X6_fills_b145 {C : zC} (hx : z_ok C cX6_fills RX6 1) (hn : z_nL C = 10) (hR : z_R C = rm_X6_fills) {rr : Unit × zS} (hq : z_fin C none (z_QV (z_g C) rr.2)) (σ : zS) (x1 : Int) (x3 : Int) (x5 : Int) (x6 : Int) (s0 : Int) (h : f_X6_fills_b145 σ x1 x3 x5 x6 s0 = some rr) : z_W C σ 145 [(0, .ref (z_ad (z_g C) 0)), (1, .int (zi x1)), (3, .int (zi x3)), (5, .int (zi x5)), (6, .int (zi x6))] [.int (zi s0)] := by
  unfold f_X6_fills_b145 at h
  refine z_istore hx hn (lv' := [(7, .int (zi s0)), (0, .ref (z_ad (z_g C) 0)), (1, .int (zi x1)), (3, .int (zi x3)), (5, .int (zi x5)), (6, .int (zi x6))]) dX6_fills_145 (by decide) rfl ?_
  refine z_aload_n hx 1 dX6_fills_147 rfl ?_
  refine z_iload_n hx 3 dX6_fills_148 rfl ?_
  refine z_iload hx 4 dX6_fills_149 rfl ?_
  refine z_iconst hx (n := 1) dX6_fills_151 ?_
  refine z_iadd hx dX6_fills_152 ?_
  refine z_iload hx 0 dX6_fills_153 rfl ?_
  obtain ⟨r2, σ1, h155, h⟩ := z_bind_some h
  refine z_calli hx (As := [.int (zi x3), .int (zi (x5 + 1)), .int (zi s0)]) (k := 0) (met_X6_seam (z_l C) (z_g C) (z_ok_sd hx) h155) (z_lt1 (z_ok_sd hx) (by decide)) (z_kc0 (z_ok_sd hx) _) rfl rfl cv_X6_111 (z_room hR ⟨Nat.le_of_ble_eq_true rfl, Nat.le_of_ble_eq_true rfl⟩) ⟨rfl, rfl⟩ rfl rfl (Nat.le_of_ble_eq_true rfl) dX6_fills_155 ?_
  refine z_istore hx hn (lv' := [(8, .int (zi r2)), (7, .int (zi s0)), (0, .ref (z_ad (z_g C) 0)), (1, .int (zi x1)), (3, .int (zi x3)), (5, .int (zi x5)), (6, .int (zi x6))]) dX6_fills_158 (by decide) rfl ?_
  refine z_iload hx 0 dX6_fills_160 rfl ?_
  refine z_if_ge hx (tgt := 169) dX6_fills_162 (by decide) h (fun h => h) (fun hc h => ?_) (fun hc h => ?_)
  · refine z_iload hx 6 dX6_fills_169 rfl ?_
    refine z_sub [2, 3, 4, 5, 0] rfl ?_
    exact w_X6_fills_b171 hx hn hR hq σ1 x1 x3 x5 r2 x6 h
  · refine z_iconst hx (n := 1) dX6_fills_165 ?_
    refine z_goto hx (tgt := 171) dX6_fills_166 (by decide) ?_
    refine z_sub [2, 3, 4, 5, 0] rfl ?_
    exact w_X6_fills_b171 hx hn hR hq σ1 x1 x3 x5 r2 1 h

theorem w_X6_fills_b112 {C : zC} (hx : z_ok C cX6_fills RX6 1) (hn : z_nL C = 10) (hR : z_R C = rm_X6_fills) {rr : Unit × zS} (hq : z_fin C none (z_QV (z_g C) rr.2)) (σ : zS) (x1 : Int) (x3 : Int) (x6 : Int) (s0 : Int) (h : f_X6_fills_b112 σ x1 x3 x6 s0 = some rr) : z_W C σ 112 [(0, .ref (z_ad (z_g C) 0)), (1, .int (zi x1)), (3, .int (zi x3)), (6, .int (zi x6))] [.int (zi s0)] := by
  unfold f_X6_fills_b112 at h
  refine z_istore hx hn (lv' := [(5, .int (zi s0)), (0, .ref (z_ad (z_g C) 0)), (1, .int (zi x1)), (3, .int (zi x3)), (6, .int (zi x6))]) dX6_fills_112 (by decide) rfl ?_
  refine z_iload_n hx 2 dX6_fills_114 rfl ?_
  refine z_iconst hx (n := 1) dX6_fills_115 ?_
  refine z_iadd hx dX6_fills_116 ?_
  refine z_aload_n hx 1 dX6_fills_117 rfl ?_
  refine gf_X6_v hx wf_X6_7 dX6_fills_118 ?_
  refine z_bipush hx (n := 8) dX6_fills_121 rfl ?_
  refine z_iald hx (n := 320) (z_lt1 (z_ok_sd hx) (by decide)) (z_kc1 (z_ok_sd hx) _) rfl (by decide) dX6_fills_123 h (fun h => ?_)
  refine z_icmp_ge hx (tgt := 138) dX6_fills_124 (by decide) h (fun h => h) (fun hc h => ?_) (fun hc h => ?_)
  · refine z_aload_n hx 1 dX6_fills_138 rfl ?_
    refine gf_X6_v hx wf_X6_7 dX6_fills_139 ?_
    refine z_bipush hx (n := 7) dX6_fills_142 rfl ?_
    refine z_iald hx (n := 320) (z_lt1 (z_ok_sd hx) (by decide)) (z_kc1 (z_ok_sd hx) _) rfl (by decide) dX6_fills_144 h (fun h => ?_)
    refine z_sub [1, 2, 3, 0, 4] rfl ?_
    exact w_X6_fills_b145 hx hn hR hq σ x1 x3 s0 x6 (σ 1 7) h
  · refine z_aload_n hx 1 dX6_fills_127 rfl ?_
    refine z_iload_n hx 2 dX6_fills_128 rfl ?_
    refine z_iconst hx (n := 1) dX6_fills_129 ?_
    refine z_iadd hx dX6_fills_130 ?_
    refine z_iconst hx (n := 1) dX6_fills_131 ?_
    obtain ⟨r2, σ1, h132, h⟩ := z_bind_some h
    refine z_calli hx (As := [.int (zi (x1 + 1)), .int (zi 1)]) (k := 0) (met_X6_of (z_l C) (z_g C) (z_ok_sd hx) h132) (z_lt1 (z_ok_sd hx) (by decide)) (z_kc0 (z_ok_sd hx) _) rfl rfl cv_X6_92 (z_room hR ⟨Nat.le_of_ble_eq_true rfl, Nat.le_of_ble_eq_true rfl⟩) ⟨rfl, rfl⟩ rfl rfl (Nat.le_of_ble_eq_true rfl) dX6_fills_132 ?_
    refine z_goto hx (tgt := 145) dX6_fills_135 (by decide) ?_
    refine z_sub [1, 2, 3, 0, 4] rfl ?_
    exact w_X6_fills_b145 hx hn hR hq σ1 x1 x3 s0 x6 r2 h

theorem w_X6_fills_b99 {C : zC} (hx : z_ok C cX6_fills RX6 1) (hn : z_nL C = 10) (hR : z_R C = rm_X6_fills) {rr : Unit × zS} (hq : z_fin C none (z_QV (z_g C) rr.2)) (σ : zS) (x1 : Int) (x2 : Int) (x3 : Int) (x5 : Int) (s0 : Int) (h : f_X6_fills_b99 σ x1 x2 x3 x5 s0 = some rr) : z_W C σ 99 [(0, .ref (z_ad (z_g C) 0)), (1, .int (zi x1)), (2, .int (zi x2)), (3, .int (zi x3)), (5, .int (zi x5))] [.int (zi s0)] := by
  unfold f_X6_fills_b99 at h
  refine z_istore hx hn (lv' := [(6, .int (zi s0)), (0, .ref (z_ad (z_g C) 0)), (1, .int (zi x1)), (2, .int (zi x2)), (3, .int (zi x3)), (5, .int (zi x5))]) dX6_fills_99 (by decide) rfl ?_
  refine z_iload hx 5 dX6_fills_101 rfl ?_
  refine z_if_ge hx (tgt := 110) dX6_fills_103 (by decide) h (fun h => h) (fun hc h => ?_) (fun hc h => ?_)
  · refine z_iload hx 5 dX6_fills_110 rfl ?_
    refine z_sub [1, 2, 4, 0] rfl ?_
    exact w_X6_fills_b112 hx hn hR hq σ x1 x3 s0 x5 h
  · refine z_iload_n hx 3 dX6_fills_106 rfl ?_
    refine z_goto hx (tgt := 112) dX6_fills_107 (by decide) ?_
    refine z_sub [1, 2, 4, 0] rfl ?_
    exact w_X6_fills_b112 hx hn hR hq σ x1 x3 s0 x2 h

theorem w_X6_fills_b75 {C : zC} (hx : z_ok C cX6_fills RX6 1) (hn : z_nL C = 10) (hR : z_R C = rm_X6_fills) {rr : Unit × zS} (hq : z_fin C none (z_QV (z_g C) rr.2)) (σ : zS) (x1 : Int) (x2 : Int) (x3 : Int) (s0 : Int) (h : f_X6_fills_b75 σ x1 x2 x3 s0 = some rr) : z_W C σ 75 [(0, .ref (z_ad (z_g C) 0)), (1, .int (zi x1)), (2, .int (zi x2)), (3, .int (zi x3))] [.int (zi s0)] := by
  unfold f_X6_fills_b75 at h
  refine z_istore hx hn (lv' := [(4, .int (zi s0)), (0, .ref (z_ad (z_g C) 0)), (1, .int (zi x1)), (2, .int (zi x2)), (3, .int (zi x3))]) dX6_fills_75 (by decide) rfl ?_
  refine z_aload_n hx 1 dX6_fills_77 rfl ?_
  refine z_iload_n hx 3 dX6_fills_78 rfl ?_
  refine z_iload hx 0 dX6_fills_79 rfl ?_
  refine z_iload_n hx 4 dX6_fills_81 rfl ?_
  refine z_iconst hx (n := 1) dX6_fills_82 ?_
  refine z_isub hx dX6_fills_83 ?_
  obtain ⟨r2, σ1, h84, h⟩ := z_bind_some h
  refine z_calli hx (As := [.int (zi x2), .int (zi s0), .int (zi (x3 - 1))]) (k := 0) (met_X6_seam (z_l C) (z_g C) (z_ok_sd hx) h84) (z_lt1 (z_ok_sd hx) (by decide)) (z_kc0 (z_ok_sd hx) _) rfl rfl cv_X6_111 (z_room hR ⟨Nat.le_of_ble_eq_true rfl, Nat.le_of_ble_eq_true rfl⟩) ⟨rfl, rfl⟩ rfl rfl (Nat.le_of_ble_eq_true rfl) dX6_fills_84 ?_
  refine z_istore hx hn (lv' := [(5, .int (zi r2)), (4, .int (zi s0)), (0, .ref (z_ad (z_g C) 0)), (1, .int (zi x1)), (2, .int (zi x2)), (3, .int (zi x3))]) dX6_fills_87 (by decide) rfl ?_
  refine z_iload hx 0 dX6_fills_89 rfl ?_
  refine z_if_ge hx (tgt := 98) dX6_fills_91 (by decide) h (fun h => h) (fun hc h => ?_) (fun hc h => ?_)
  · refine z_iconst hx (n := 0) dX6_fills_98 ?_
    refine z_sub [2, 3, 4, 5, 0] rfl ?_
    exact w_X6_fills_b99 hx hn hR hq σ1 x1 x2 x3 r2 0 h
  · refine z_iconst hx (n := 1) dX6_fills_94 ?_
    refine z_goto hx (tgt := 99) dX6_fills_95 (by decide) ?_
    refine z_sub [2, 3, 4, 5, 0] rfl ?_
    exact w_X6_fills_b99 hx hn hR hq σ1 x1 x2 x3 r2 1 h

theorem w_X6_fills_b73 {C : zC} (hx : z_ok C cX6_fills RX6 1) (hn : z_nL C = 10) (hR : z_R C = rm_X6_fills) {rr : Unit × zS} (hq : z_fin C none (z_QV (z_g C) rr.2)) (σ : zS) (x1 : Int) (x2 : Int) (x3 : Int) (x4 : Int) (h : f_X6_fills_b73 σ x1 x2 x3 x4 = some rr) : z_W C σ 73 [(0, .ref (z_ad (z_g C) 0)), (1, .int (zi x1)), (2, .int (zi x2)), (3, .int (zi x3)), (4, .int (zi x4))] [] := by
  unfold f_X6_fills_b73 at h
  refine z_iload hx 4 dX6_fills_73 rfl ?_
  refine z_sub [0, 1, 2, 3] rfl ?_
  exact w_X6_fills_b75 hx hn hR hq σ x1 x2 x3 x4 h

theorem w_X6_fills_b30 {C : zC} (hx : z_ok C cX6_fills RX6 1) (hn : z_nL C = 10) (hR : z_R C = rm_X6_fills) {rr : Unit × zS} (hq : z_fin C none (z_QV (z_g C) rr.2)) (σ : zS) (x1 : Int) (x2 : Int) (x3 : Int) (s0 : Int) (h : f_X6_fills_b30 σ x1 x2 x3 s0 = some rr) : z_W C σ 30 [(0, .ref (z_ad (z_g C) 0)), (1, .int (zi x1)), (2, .int (zi x2)), (3, .int (zi x3))] [.int (zi s0)] := by
  unfold f_X6_fills_b30 at h
  refine z_istore hx hn (lv' := [(4, .int (zi s0)), (0, .ref (z_ad (z_g C) 0)), (1, .int (zi x1)), (2, .int (zi x2)), (3, .int (zi x3))]) dX6_fills_30 (by decide) rfl ?_
  refine z_aload_n hx 1 dX6_fills_32 rfl ?_
  refine gf_X6_cutMany hx wf_X6_108 dX6_fills_33 ?_
  refine z_if_le hx (tgt := 73) dX6_fills_36 (by decide) h (fun h => h) (fun hc h => ?_) (fun hc h => ?_)
  · refine z_sub [1, 2, 3, 4, 0] rfl ?_
    exact w_X6_fills_b73 hx hn hR hq σ x1 x2 x3 s0 h
  · refine z_aload_n hx 1 dX6_fills_39 rfl ?_
    refine gf_X6_cut hx wf_X6_25 dX6_fills_40 ?_
    refine z_iconst hx (n := 5) dX6_fills_43 ?_
    refine z_aload_n hx 1 dX6_fills_44 rfl ?_
    refine gf_X6_cutMany hx wf_X6_108 dX6_fills_45 ?_
    refine z_imul hx dX6_fills_48 ?_
    refine z_iconst hx (n := 4) dX6_fills_49 ?_
    refine z_isub hx dX6_fills_50 ?_
    refine z_iald hx (n := 100) (z_lt1 (z_ok_sd hx) (by decide)) (z_kc6 (z_ok_sd hx) _) rfl (by decide) dX6_fills_51 h (fun h => ?_)
    refine z_iload hx 0 dX6_fills_52 rfl ?_
    refine z_icmp_le hx (tgt := 73) dX6_fills_54 (by decide) h (fun h => h) (fun hc h => ?_) (fun hc h => ?_)
    · refine z_sub [1, 2, 3, 4, 0] rfl ?_
      exact w_X6_fills_b73 hx hn hR hq σ x1 x2 x3 s0 h
    · refine z_aload_n hx 1 dX6_fills_57 rfl ?_
      refine gf_X6_cut hx wf_X6_25 dX6_fills_58 ?_
      refine z_iconst hx (n := 5) dX6_fills_61 ?_
      refine z_aload_n hx 1 dX6_fills_62 rfl ?_
      refine gf_X6_cutMany hx wf_X6_108 dX6_fills_63 ?_
      refine z_imul hx dX6_fills_66 ?_
      refine z_iconst hx (n := 4) dX6_fills_67 ?_
      refine z_isub hx dX6_fills_68 ?_
      refine z_iald hx (n := 100) (z_lt1 (z_ok_sd hx) (by decide)) (z_kc6 (z_ok_sd hx) _) rfl (by decide) dX6_fills_69 h (fun h => ?_)
      refine z_goto hx (tgt := 75) dX6_fills_70 (by decide) ?_
      refine z_sub [1, 2, 3, 4] rfl ?_
      exact w_X6_fills_b75 hx hn hR hq σ x1 x2 x3 (σ 6 ((5 * (σ 0 12)) - 4)) h

theorem w_X6_fills {C : zC} (hx : z_ok C cX6_fills RX6 1) (hn : z_nL C = 10) (hR : z_R C = rm_X6_fills) {rr : Unit × zS} (hq : z_fin C none (z_QV (z_g C) rr.2)) (σ : zS) (x1 : Int) (h : f_X6_fills σ x1 = some rr) : z_W C σ 0 [(0, .ref (z_ad (z_g C) 0)), (1, .int (zi x1))] [] := by
  unfold f_X6_fills at h
  refine z_aload_n hx 0 dX6_fills_0 rfl ?_
  refine z_iload_n hx 1 dX6_fills_1 rfl ?_
  refine z_iconst hx (n := 1) dX6_fills_2 ?_
  obtain ⟨r2, σ1, h3, h⟩ := z_bind_some h
  refine z_calli hx (As := [.int (zi x1), .int (zi 1)]) (k := 0) (met_X6_of (z_l C) (z_g C) (z_ok_sd hx) h3) (z_lt1 (z_ok_sd hx) (by decide)) (z_kc0 (z_ok_sd hx) _) rfl rfl cv_X6_92 (z_room hR ⟨Nat.le_of_ble_eq_true rfl, Nat.le_of_ble_eq_true rfl⟩) ⟨rfl, rfl⟩ rfl rfl (Nat.le_of_ble_eq_true rfl) dX6_fills_3 ?_
  refine z_istore_n hx hn (lv' := [(2, .int (zi r2)), (0, .ref (z_ad (z_g C) 0)), (1, .int (zi x1))]) dX6_fills_6 (by decide) rfl ?_
  refine z_aload_n hx 1 dX6_fills_7 rfl ?_
  refine z_iload_n hx 2 dX6_fills_8 rfl ?_
  refine z_iconst hx (n := 2) dX6_fills_9 ?_
  obtain ⟨r4, σ3, h10, h⟩ := z_bind_some h
  refine z_calli hx (As := [.int (zi x1), .int (zi 2)]) (k := 0) (met_X6_of (z_l C) (z_g C) (z_ok_sd hx) h10) (z_lt1 (z_ok_sd hx) (by decide)) (z_kc0 (z_ok_sd hx) _) rfl rfl cv_X6_92 (z_room hR ⟨Nat.le_of_ble_eq_true rfl, Nat.le_of_ble_eq_true rfl⟩) ⟨rfl, rfl⟩ rfl rfl (Nat.le_of_ble_eq_true rfl) dX6_fills_10 ?_
  refine z_istore_n hx hn (lv' := [(3, .int (zi r4)), (2, .int (zi r2)), (0, .ref (z_ad (z_g C) 0)), (1, .int (zi x1))]) dX6_fills_13 (by decide) rfl ?_
  refine z_iload_n hx 3 dX6_fills_14 rfl ?_
  refine z_if_ne hx (tgt := 22) dX6_fills_15 (by decide) h (fun h => h) (fun hc h => ?_) (fun hc h => ?_)
  · refine z_aload_n hx 2 dX6_fills_22 rfl ?_
    refine z_iload_n hx 3 dX6_fills_23 rfl ?_
    refine z_iconst hx (n := 1) dX6_fills_24 ?_
    refine z_isub hx dX6_fills_25 ?_
    refine z_iconst hx (n := 2) dX6_fills_26 ?_
    obtain ⟨r6, σ5, h27, h⟩ := z_bind_some h
    refine z_calli hx (As := [.int (zi (x1 - 1)), .int (zi 2)]) (k := 0) (met_X6_of (z_l C) (z_g C) (z_ok_sd hx) h27) (z_lt1 (z_ok_sd hx) (by decide)) (z_kc0 (z_ok_sd hx) _) rfl rfl cv_X6_92 (z_room hR ⟨Nat.le_of_ble_eq_true rfl, Nat.le_of_ble_eq_true rfl⟩) ⟨rfl, rfl⟩ rfl rfl (Nat.le_of_ble_eq_true rfl) dX6_fills_27 ?_
    refine z_sub [2, 3, 1, 0] rfl ?_
    exact w_X6_fills_b30 hx hn hR hq σ5 x1 r2 r4 r6 h
  · refine z_iconst hx (n := 0) dX6_fills_18 ?_
    refine z_goto hx (tgt := 30) dX6_fills_19 (by decide) ?_
    refine z_sub [2, 3, 1, 0] rfl ?_
    exact w_X6_fills_b30 hx hn hR hq σ3 x1 r2 r4 0 h

theorem met_X6_fills (l : Launch) (g : zG) (hg : g.1 = 1) {σ : zS} {x1 : Int} {rr : Unit × zS} (h : f_X6_fills σ x1 = some rr) : z_Met l yX6_fills cX6_fills 10 none rm_X6_fills g [.ref (z_ad (g) 0), .int (zi x1)] σ (z_QV g rr.2) := by
  refine z_enter (own := RX6) (sd := 1) (lv0 := [(0, .ref (z_ad (g) 0)), (1, .int (zi x1))]) (by decide) rfl (Nat.le_of_ble_eq_true rfl) hg rfl (fun C hx hl hgC hR hn hq => ?_)
  subst hgC
  refine z_sub [0, 1] rfl ?_
  exact w_X6_fills hx hn hR hq σ x1 h
theorem dX6_finds_0 : decode cX6_finds 0 = .ok (.aload_n 0, 1) := by decide +kernel
theorem dX6_finds_1 : decode cX6_finds 1 = .ok (.iconst 0, 1) := by decide +kernel
theorem dX6_finds_2 : decode cX6_finds 2 = .ok (.putfield 108, 3) := by decide +kernel
theorem dX6_finds_5 : decode cX6_finds 5 = .ok (.iconst 0, 1) := by decide +kernel
theorem dX6_finds_6 : decode cX6_finds 6 = .ok (.istore_n 1, 1) := by decide +kernel
theorem dX6_finds_7 : decode cX6_finds 7 = .ok (.iload_n 1, 1) := by decide +kernel
theorem dX6_finds_8 : decode cX6_finds 8 = .ok (.aload_n 0, 1) := by decide +kernel
theorem dX6_finds_9 : decode cX6_finds 9 = .ok (.getfield 7, 3) := by decide +kernel
theorem dX6_finds_12 : decode cX6_finds 12 = .ok (.bipush 8, 2) := by decide +kernel
theorem dX6_finds_14 : decode cX6_finds 14 = .ok (.iaload, 1) := by decide +kernel
theorem dX6_finds_15 : decode cX6_finds 15 = .ok (.if_icmp .ge 165, 3) := by decide +kernel
theorem dX6_finds_18 : decode cX6_finds 18 = .ok (.aload_n 0, 1) := by decide +kernel
theorem dX6_finds_19 : decode cX6_finds 19 = .ok (.iload_n 1, 1) := by decide +kernel
theorem dX6_finds_20 : decode cX6_finds 20 = .ok (.iconst 2, 1) := by decide +kernel
theorem dX6_finds_21 : decode cX6_finds 21 = .ok (.invokevirtual 92, 3) := by decide +kernel
theorem dX6_finds_24 : decode cX6_finds 24 = .ok (.aload_n 0, 1) := by decide +kernel
theorem dX6_finds_25 : decode cX6_finds 25 = .ok (.iload_n 1, 1) := by decide +kernel
theorem dX6_finds_26 : decode cX6_finds 26 = .ok (.iconst 1, 1) := by decide +kernel
theorem dX6_finds_27 : decode cX6_finds 27 = .ok (.invokevirtual 92, 3) := by decide +kernel
theorem dX6_finds_30 : decode cX6_finds 30 = .ok (.isub, 1) := by decide +kernel
theorem dX6_finds_31 : decode cX6_finds 31 = .ok (.istore_n 2, 1) := by decide +kernel
theorem dX6_finds_32 : decode cX6_finds 32 = .ok (.aload_n 0, 1) := by decide +kernel
theorem dX6_finds_33 : decode cX6_finds 33 = .ok (.iload_n 1, 1) := by decide +kernel
theorem dX6_finds_34 : decode cX6_finds 34 = .ok (.iconst 4, 1) := by decide +kernel
theorem dX6_finds_35 : decode cX6_finds 35 = .ok (.invokevirtual 92, 3) := by decide +kernel
theorem dX6_finds_38 : decode cX6_finds 38 = .ok (.ifCond .ne 35, 3) := by decide +kernel
theorem dX6_finds_41 : decode cX6_finds 41 = .ok (.aload_n 0, 1) := by decide +kernel
theorem dX6_finds_42 : decode cX6_finds 42 = .ok (.iload_n 1, 1) := by decide +kernel
theorem dX6_finds_43 : decode cX6_finds 43 = .ok (.iconst 0, 1) := by decide +kernel
theorem dX6_finds_44 : decode cX6_finds 44 = .ok (.invokevirtual 92, 3) := by decide +kernel
theorem dX6_finds_47 : decode cX6_finds 47 = .ok (.ifCond .ne 26, 3) := by decide +kernel
theorem dX6_finds_50 : decode cX6_finds 50 = .ok (.aload_n 0, 1) := by decide +kernel
theorem dX6_finds_51 : decode cX6_finds 51 = .ok (.iload_n 1, 1) := by decide +kernel
theorem dX6_finds_52 : decode cX6_finds 52 = .ok (.iconst 3, 1) := by decide +kernel
theorem dX6_finds_53 : decode cX6_finds 53 = .ok (.invokevirtual 92, 3) := by decide +kernel
theorem dX6_finds_56 : decode cX6_finds 56 = .ok (.aload_n 0, 1) := by decide +kernel
theorem dX6_finds_57 : decode cX6_finds 57 = .ok (.getfield 7, 3) := by decide +kernel
theorem dX6_finds_60 : decode cX6_finds 60 = .ok (.iconst 0, 1) := by decide +kernel
theorem dX6_finds_61 : decode cX6_finds 61 = .ok (.iaload, 1) := by decide +kernel
theorem dX6_finds_62 : decode cX6_finds 62 = .ok (.if_icmp .gt 11, 3) := by decide +kernel
theorem dX6_finds_65 : decode cX6_finds 65 = .ok (.aload_n 0, 1) := by decide +kernel
theorem dX6_finds_66 : decode cX6_finds 66 = .ok (.iload_n 1, 1) := by decide +kernel
theorem dX6_finds_67 : decode cX6_finds 67 = .ok (.invokevirtual 119, 3) := by decide +kernel
theorem dX6_finds_70 : decode cX6_finds 70 = .ok (.goto 104, 3) := by decide +kernel
theorem dX6_finds_73 : decode cX6_finds 73 = .ok (.aload_n 0, 1) := by decide +kernel
theorem dX6_finds_74 : decode cX6_finds 74 = .ok (.iload_n 1, 1) := by decide +kernel
theorem dX6_finds_75 : decode cX6_finds 75 = .ok (.iconst 4, 1) := by decide +kernel
theorem dX6_finds_76 : decode cX6_finds 76 = .ok (.invokevirtual 92, 3) := by decide +kernel
theorem dX6_finds_79 : decode cX6_finds 79 = .ok (.ifCond .ne 95, 3) := by decide +kernel
theorem dX6_finds_82 : decode cX6_finds 82 = .ok (.aload_n 0, 1) := by decide +kernel
theorem dX6_finds_83 : decode cX6_finds 83 = .ok (.iload_n 1, 1) := by decide +kernel
theorem dX6_finds_84 : decode cX6_finds 84 = .ok (.iconst 0, 1) := by decide +kernel
theorem dX6_finds_85 : decode cX6_finds 85 = .ok (.invokevirtual 92, 3) := by decide +kernel
theorem dX6_finds_88 : decode cX6_finds 88 = .ok (.iconst 1, 1) := by decide +kernel
theorem dX6_finds_89 : decode cX6_finds 89 = .ok (.if_icmp .ne 85, 3) := by decide +kernel
theorem dX6_finds_92 : decode cX6_finds 92 = .ok (.iload_n 2, 1) := by decide +kernel
theorem dX6_finds_93 : decode cX6_finds 93 = .ok (.aload_n 0, 1) := by decide +kernel
theorem dX6_finds_94 : decode cX6_finds 94 = .ok (.getfield 7, 3) := by decide +kernel
theorem dX6_finds_97 : decode cX6_finds 97 = .ok (.bipush 6, 2) := by decide +kernel
theorem dX6_finds_99 : decode cX6_finds 99 = .ok (.iaload, 1) := by decide +kernel
theorem dX6_finds_100 : decode cX6_finds 100 = .ok (.if_icmp .ge 25, 3) := by decide +kernel
theorem dX6_finds_103 : decode cX6_finds 103 = .ok (.aload_n 0, 1) := by decide +kernel
theorem dX6_finds_104 : decode cX6_finds 104 = .ok (.aload_n 0, 1) := by decide +kernel
theorem dX6_finds_105 : decode cX6_finds 105 = .ok (.iload_n 1, 1) := by decide +kernel
theorem dX6_finds_106 : decode cX6_finds 106 = .ok (.iconst 1, 1) := by decide +kernel
theorem dX6_finds_107 : decode cX6_finds 107 = .ok (.invokevirtual 92, 3) := by decide +kernel
theorem dX6_finds_110 : decode cX6_finds 110 = .ok (.aload_n 0, 1) := by decide +kernel
theorem dX6_finds_111 : decode cX6_finds 111 = .ok (.iload_n 1, 1) := by decide +kernel
theorem dX6_finds_112 : decode cX6_finds 112 = .ok (.iconst 2, 1) := by decide +kernel
theorem dX6_finds_113 : decode cX6_finds 113 = .ok (.invokevirtual 92, 3) := by decide +kernel
theorem dX6_finds_116 : decode cX6_finds 116 = .ok (.iconst 0, 1) := by decide +kernel
theorem dX6_finds_117 : decode cX6_finds 117 = .ok (.iconst 0, 1) := by decide +kernel
theorem dX6_finds_118 : decode cX6_finds 118 = .ok (.iload_n 1, 1) := by decide +kernel
theorem dX6_finds_119 : decode cX6_finds 119 = .ok (.invokevirtual 115, 3) := by decide +kernel
theorem dX6_finds_122 : decode cX6_finds 122 = .ok (.goto 52, 3) := by decide +kernel
theorem dX6_finds_125 : decode cX6_finds 125 = .ok (.iload_n 2, 1) := by decide +kernel
theorem dX6_finds_126 : decode cX6_finds 126 = .ok (.aload_n 0, 1) := by decide +kernel
theorem dX6_finds_127 : decode cX6_finds 127 = .ok (.getfield 7, 3) := by decide +kernel
theorem dX6_finds_130 : decode cX6_finds 130 = .ok (.iconst 5, 1) := by decide +kernel
theorem dX6_finds_131 : decode cX6_finds 131 = .ok (.iaload, 1) := by decide +kernel
theorem dX6_finds_132 : decode cX6_finds 132 = .ok (.if_icmp .le 42, 3) := by decide +kernel
theorem dX6_finds_135 : decode cX6_finds 135 = .ok (.aload_n 0, 1) := by decide +kernel
theorem dX6_finds_136 : decode cX6_finds 136 = .ok (.aload_n 0, 1) := by decide +kernel
theorem dX6_finds_137 : decode cX6_finds 137 = .ok (.iload_n 1, 1) := by decide +kernel
theorem dX6_finds_138 : decode cX6_finds 138 = .ok (.iconst 1, 1) := by decide +kernel
theorem dX6_finds_139 : decode cX6_finds 139 = .ok (.invokevirtual 92, 3) := by decide +kernel
theorem dX6_finds_142 : decode cX6_finds 142 = .ok (.aload_n 0, 1) := by decide +kernel
theorem dX6_finds_143 : decode cX6_finds 143 = .ok (.getfield 7, 3) := by decide +kernel
theorem dX6_finds_146 : decode cX6_finds 146 = .ok (.iconst 5, 1) := by decide +kernel
theorem dX6_finds_147 : decode cX6_finds 147 = .ok (.iaload, 1) := by decide +kernel
theorem dX6_finds_148 : decode cX6_finds 148 = .ok (.iconst 1, 1) := by decide +kernel
theorem dX6_finds_149 : decode cX6_finds 149 = .ok (.iadd, 1) := by decide +kernel
theorem dX6_finds_150 : decode cX6_finds 150 = .ok (.iconst 2, 1) := by decide +kernel
theorem dX6_finds_151 : decode cX6_finds 151 = .ok (.idiv, 1) := by decide +kernel
theorem dX6_finds_152 : decode cX6_finds 152 = .ok (.iadd, 1) := by decide +kernel
theorem dX6_finds_153 : decode cX6_finds 153 = .ok (.aload_n 0, 1) := by decide +kernel
theorem dX6_finds_154 : decode cX6_finds 154 = .ok (.iload_n 1, 1) := by decide +kernel
theorem dX6_finds_155 : decode cX6_finds 155 = .ok (.iconst 2, 1) := by decide +kernel
theorem dX6_finds_156 : decode cX6_finds 156 = .ok (.invokevirtual 92, 3) := by decide +kernel
theorem dX6_finds_159 : decode cX6_finds 159 = .ok (.aload_n 0, 1) := by decide +kernel
theorem dX6_finds_160 : decode cX6_finds 160 = .ok (.getfield 7, 3) := by decide +kernel
theorem dX6_finds_163 : decode cX6_finds 163 = .ok (.iconst 5, 1) := by decide +kernel
theorem dX6_finds_164 : decode cX6_finds 164 = .ok (.iaload, 1) := by decide +kernel
theorem dX6_finds_165 : decode cX6_finds 165 = .ok (.iconst 2, 1) := by decide +kernel
theorem dX6_finds_166 : decode cX6_finds 166 = .ok (.idiv, 1) := by decide +kernel
theorem dX6_finds_167 : decode cX6_finds 167 = .ok (.isub, 1) := by decide +kernel
theorem dX6_finds_168 : decode cX6_finds 168 = .ok (.iconst 0, 1) := by decide +kernel
theorem dX6_finds_169 : decode cX6_finds 169 = .ok (.iconst 0, 1) := by decide +kernel
theorem dX6_finds_170 : decode cX6_finds 170 = .ok (.iload_n 1, 1) := by decide +kernel
theorem dX6_finds_171 : decode cX6_finds 171 = .ok (.invokevirtual 115, 3) := by decide +kernel
theorem dX6_finds_174 : decode cX6_finds 174 = .ok (.iinc 1 1, 3) := by decide +kernel
theorem dX6_finds_177 : decode cX6_finds 177 = .ok (.goto (-170), 3) := by decide +kernel
theorem dX6_finds_180 : decode cX6_finds 180 = .ok (.return_, 1) := by decide +kernel
abbrev rm_X6_finds : Room := { frames := 5, cells := 0, slots := 0, locals := 117 }
theorem w_X6_finds_b174 {C : zC} (hx : z_ok C cX6_finds RX6 1) (hn : z_nL C = 3) (hR : z_R C = rm_X6_finds) {rr : Unit × zS} (hq : z_fin C none (z_QV (z_g C) rr.2)) {K7 : zS → Int → Option (Unit × zS)} (hK7 : ∀ (σ : zS) (x1 : Int) , K7 σ x1 = some rr → z_W C σ 7 [(0, .ref (z_ad (z_g C) 0)), (1, .int (zi x1))] []) (σ : zS) (x1 : Int) (h : f_X6_finds_b174 K7 σ x1 = some rr) : z_W C σ 174 [(0, .ref (z_ad (z_g C) 0)), (1, .int (zi x1))] [] := by
  unfold f_X6_finds_b174 at h
  refine z_iinc hx hn 1 (lv' := [(1, .int (zi (x1 + 1))), (0, .ref (z_ad (z_g C) 0))]) dX6_finds_174 rfl (by decide) rfl ?_
  refine z_goto hx (tgt := 7) dX6_finds_177 (by decide) ?_
  refine z_sub [1, 0] rfl ?_
  exact hK7 σ (x1 + 1) h

theorem w_X6_finds_b73 {C : zC} (hx : z_ok C cX6_finds RX6 1) (hn : z_nL C = 3) (hR : z_R C = rm_X6_finds) {rr : Unit × zS} (hq : z_fin C none (z_QV (z_g C) rr.2)) {K7 : zS → Int → Option (Unit × zS)} (hK7 : ∀ (σ : zS) (x1 : Int) , K7 σ x1 = some rr → z_W C σ 7 [(0, .ref (z_ad (z_g C) 0)), (1, .int (zi x1))] []) (σ : zS) (x1 : Int) (x2 : Int) (h : f_X6_finds_b73 K7 σ x1 x2 = some rr) : z_W C σ 73 [(0, .ref (z_ad (z_g C) 0)), (1, .int (zi x1)), (2, .int (zi x2))] [] := by
  unfold f_X6_finds_b73 at h
  refine z_aload_n hx 0 dX6_finds_73 rfl ?_
  refine z_iload_n hx 1 dX6_finds_74 rfl ?_
  refine z_iconst hx (n := 4) dX6_finds_75 ?_
  obtain ⟨r2, σ1, h76, h⟩ := z_bind_some h
  refine z_calli hx (As := [.int (zi x1), .int (zi 4)]) (k := 0) (met_X6_of (z_l C) (z_g C) (z_ok_sd hx) h76) (z_lt1 (z_ok_sd hx) (by decide)) (z_kc0 (z_ok_sd hx) _) rfl rfl cv_X6_92 (z_room hR ⟨Nat.le_of_ble_eq_true rfl, Nat.le_of_ble_eq_true rfl⟩) ⟨rfl, rfl⟩ rfl rfl (Nat.le_of_ble_eq_true rfl) dX6_finds_76 ?_
  refine z_if_ne hx (tgt := 174) dX6_finds_79 (by decide) h (fun h => h) (fun hc h => ?_) (fun hc h => ?_)
  · refine z_sub [0, 1] rfl ?_
    exact w_X6_finds_b174 hx hn hR hq hK7 σ1 x1 h
  · refine z_aload_n hx 0 dX6_finds_82 rfl ?_
    refine z_iload_n hx 1 dX6_finds_83 rfl ?_
    refine z_iconst hx (n := 0) dX6_finds_84 ?_
    obtain ⟨r4, σ3, h85, h⟩ := z_bind_some h
    refine z_calli hx (As := [.int (zi x1), .int (zi 0)]) (k := 0) (met_X6_of (z_l C) (z_g C) (z_ok_sd hx) h85) (z_lt1 (z_ok_sd hx) (by decide)) (z_kc0 (z_ok_sd hx) _) rfl rfl cv_X6_92 (z_room hR ⟨Nat.le_of_ble_eq_true rfl, Nat.le_of_ble_eq_true rfl⟩) ⟨rfl, rfl⟩ rfl rfl (Nat.le_of_ble_eq_true rfl) dX6_finds_85 ?_
    refine z_iconst hx (n := 1) dX6_finds_88 ?_
    refine z_icmp_ne hx (tgt := 174) dX6_finds_89 (by decide) h (fun h => ⟨h, by decide⟩) (fun hc h => ?_) (fun hc h => ?_)
    · refine z_sub [0, 1] rfl ?_
      exact w_X6_finds_b174 hx hn hR hq hK7 σ3 x1 h
    · refine z_iload_n hx 2 dX6_finds_92 rfl ?_
      refine z_aload_n hx 0 dX6_finds_93 rfl ?_
      refine gf_X6_v hx wf_X6_7 dX6_finds_94 ?_
      refine z_bipush hx (n := 6) dX6_finds_97 rfl ?_
      refine z_iald hx (n := 320) (z_lt1 (z_ok_sd hx) (by decide)) (z_kc1 (z_ok_sd hx) _) rfl (by decide) dX6_finds_99 h (fun h => ?_)
      refine z_icmp_ge hx (tgt := 125) dX6_finds_100 (by decide) h (fun h => h) (fun hc h => ?_) (fun hc h => ?_)
      · refine z_iload_n hx 2 dX6_finds_125 rfl ?_
        refine z_aload_n hx 0 dX6_finds_126 rfl ?_
        refine gf_X6_v hx wf_X6_7 dX6_finds_127 ?_
        refine z_iconst hx (n := 5) dX6_finds_130 ?_
        refine z_iald hx (n := 320) (z_lt1 (z_ok_sd hx) (by decide)) (z_kc1 (z_ok_sd hx) _) rfl (by decide) dX6_finds_131 h (fun h => ?_)
        refine z_icmp_le hx (tgt := 174) dX6_finds_132 (by decide) h (fun h => h) (fun hc h => ?_) (fun hc h => ?_)
        · refine z_sub [0, 1] rfl ?_
          exact w_X6_finds_b174 hx hn hR hq hK7 σ3 x1 h
        · refine z_aload_n hx 0 dX6_finds_135 rfl ?_
          refine z_aload_n hx 0 dX6_finds_136 rfl ?_
          refine z_iload_n hx 1 dX6_finds_137 rfl ?_
          refine z_iconst hx (n := 1) dX6_finds_138 ?_
          obtain ⟨r6, σ5, h139, h⟩ := z_bind_some h
          refine z_calli hx (As := [.int (zi x1), .int (zi 1)]) (k := 0) (met_X6_of (z_l C) (z_g C) (z_ok_sd hx) h139) (z_lt1 (z_ok_sd hx) (by decide)) (z_kc0 (z_ok_sd hx) _) rfl rfl cv_X6_92 (z_room hR ⟨Nat.le_of_ble_eq_true rfl, Nat.le_of_ble_eq_true rfl⟩) ⟨rfl, rfl⟩ rfl rfl (Nat.le_of_ble_eq_true rfl) dX6_finds_139 ?_
          refine z_aload_n hx 0 dX6_finds_142 rfl ?_
          refine gf_X6_v hx wf_X6_7 dX6_finds_143 ?_
          refine z_iconst hx (n := 5) dX6_finds_146 ?_
          refine z_iald hx (n := 320) (z_lt1 (z_ok_sd hx) (by decide)) (z_kc1 (z_ok_sd hx) _) rfl (by decide) dX6_finds_147 h (fun h => ?_)
          refine z_iconst hx (n := 1) dX6_finds_148 ?_
          refine z_iadd hx dX6_finds_149 ?_
          refine z_iconst hx (n := 2) dX6_finds_150 ?_
          refine z_idiv hx dX6_finds_151 h (fun h => ?_)
          refine z_iadd hx dX6_finds_152 ?_
          refine z_aload_n hx 0 dX6_finds_153 rfl ?_
          refine z_iload_n hx 1 dX6_finds_154 rfl ?_
          refine z_iconst hx (n := 2) dX6_finds_155 ?_
          obtain ⟨r8, σ7, h156, h⟩ := z_bind_some h
          refine z_calli hx (As := [.int (zi x1), .int (zi 2)]) (k := 0) (met_X6_of (z_l C) (z_g C) (z_ok_sd hx) h156) (z_lt1 (z_ok_sd hx) (by decide)) (z_kc0 (z_ok_sd hx) _) rfl rfl cv_X6_92 (z_room hR ⟨Nat.le_of_ble_eq_true rfl, Nat.le_of_ble_eq_true rfl⟩) ⟨rfl, rfl⟩ rfl rfl (Nat.le_of_ble_eq_true rfl) dX6_finds_156 ?_
          refine z_aload_n hx 0 dX6_finds_159 rfl ?_
          refine gf_X6_v hx wf_X6_7 dX6_finds_160 ?_
          refine z_iconst hx (n := 5) dX6_finds_163 ?_
          refine z_iald hx (n := 320) (z_lt1 (z_ok_sd hx) (by decide)) (z_kc1 (z_ok_sd hx) _) rfl (by decide) dX6_finds_164 h (fun h => ?_)
          refine z_iconst hx (n := 2) dX6_finds_165 ?_
          refine z_idiv hx dX6_finds_166 h (fun h => ?_)
          refine z_isub hx dX6_finds_167 ?_
          refine z_iconst hx (n := 0) dX6_finds_168 ?_
          refine z_iconst hx (n := 0) dX6_finds_169 ?_
          refine z_iload_n hx 1 dX6_finds_170 rfl ?_
          obtain ⟨⟨⟩, σ9, h171, h⟩ := z_bind_some h
          refine z_callv hx (As := [.int (zi (r6 + (((σ5 1 5) + 1).tdiv 2))), .int (zi (r8 - ((σ7 1 5).tdiv 2))), .int (zi 0), .int (zi 0), .int (zi x1)]) (k := 0) (met_X6_lays (z_l C) (z_g C) (z_ok_sd hx) h171) (z_lt1 (z_ok_sd hx) (by decide)) (z_kc0 (z_ok_sd hx) _) rfl rfl cv_X6_115 (z_room hR ⟨Nat.le_of_ble_eq_true rfl, Nat.le_of_ble_eq_true rfl⟩) ⟨rfl, rfl⟩ rfl rfl (Nat.le_of_ble_eq_true rfl) dX6_finds_171 ?_
          refine z_sub [0, 1] rfl ?_
          exact w_X6_finds_b174 hx hn hR hq hK7 σ9 x1 h
      · refine z_aload_n hx 0 dX6_finds_103 rfl ?_
        refine z_aload_n hx 0 dX6_finds_104 rfl ?_
        refine z_iload_n hx 1 dX6_finds_105 rfl ?_
        refine z_iconst hx (n := 1) dX6_finds_106 ?_
        obtain ⟨r11, σ10, h107, h⟩ := z_bind_some h
        refine z_calli hx (As := [.int (zi x1), .int (zi 1)]) (k := 0) (met_X6_of (z_l C) (z_g C) (z_ok_sd hx) h107) (z_lt1 (z_ok_sd hx) (by decide)) (z_kc0 (z_ok_sd hx) _) rfl rfl cv_X6_92 (z_room hR ⟨Nat.le_of_ble_eq_true rfl, Nat.le_of_ble_eq_true rfl⟩) ⟨rfl, rfl⟩ rfl rfl (Nat.le_of_ble_eq_true rfl) dX6_finds_107 ?_
        refine z_aload_n hx 0 dX6_finds_110 rfl ?_
        refine z_iload_n hx 1 dX6_finds_111 rfl ?_
        refine z_iconst hx (n := 2) dX6_finds_112 ?_
        obtain ⟨r13, σ12, h113, h⟩ := z_bind_some h
        refine z_calli hx (As := [.int (zi x1), .int (zi 2)]) (k := 0) (met_X6_of (z_l C) (z_g C) (z_ok_sd hx) h113) (z_lt1 (z_ok_sd hx) (by decide)) (z_kc0 (z_ok_sd hx) _) rfl rfl cv_X6_92 (z_room hR ⟨Nat.le_of_ble_eq_true rfl, Nat.le_of_ble_eq_true rfl⟩) ⟨rfl, rfl⟩ rfl rfl (Nat.le_of_ble_eq_true rfl) dX6_finds_113 ?_
        refine z_iconst hx (n := 0) dX6_finds_116 ?_
        refine z_iconst hx (n := 0) dX6_finds_117 ?_
        refine z_iload_n hx 1 dX6_finds_118 rfl ?_
        obtain ⟨⟨⟩, σ14, h119, h⟩ := z_bind_some h
        refine z_callv hx (As := [.int (zi r11), .int (zi r13), .int (zi 0), .int (zi 0), .int (zi x1)]) (k := 0) (met_X6_lays (z_l C) (z_g C) (z_ok_sd hx) h119) (z_lt1 (z_ok_sd hx) (by decide)) (z_kc0 (z_ok_sd hx) _) rfl rfl cv_X6_115 (z_room hR ⟨Nat.le_of_ble_eq_true rfl, Nat.le_of_ble_eq_true rfl⟩) ⟨rfl, rfl⟩ rfl rfl (Nat.le_of_ble_eq_true rfl) dX6_finds_119 ?_
        refine z_goto hx (tgt := 174) dX6_finds_122 (by decide) ?_
        refine z_sub [0, 1] rfl ?_
        exact w_X6_finds_b174 hx hn hR hq hK7 σ14 x1 h

theorem w_X6_finds_b7 {C : zC} (hx : z_ok C cX6_finds RX6 1) (hn : z_nL C = 3) (hR : z_R C = rm_X6_finds) {rr : Unit × zS} (hq : z_fin C none (z_QV (z_g C) rr.2)) {K7 : zS → Int → Option (Unit × zS)} (hK7 : ∀ (σ : zS) (x1 : Int) , K7 σ x1 = some rr → z_W C σ 7 [(0, .ref (z_ad (z_g C) 0)), (1, .int (zi x1))] []) (σ : zS) (x1 : Int) (h : f_X6_finds_b7 K7 σ x1 = some rr) : z_W C σ 7 [(0, .ref (z_ad (z_g C) 0)), (1, .int (zi x1))] [] := by
  unfold f_X6_finds_b7 at h
  refine z_iload_n hx 1 dX6_finds_7 rfl ?_
  refine z_aload_n hx 0 dX6_finds_8 rfl ?_
  refine gf_X6_v hx wf_X6_7 dX6_finds_9 ?_
  refine z_bipush hx (n := 8) dX6_finds_12 rfl ?_
  refine z_iald hx (n := 320) (z_lt1 (z_ok_sd hx) (by decide)) (z_kc1 (z_ok_sd hx) _) rfl (by decide) dX6_finds_14 h (fun h => ?_)
  refine z_icmp_ge hx (tgt := 180) dX6_finds_15 (by decide) h (fun h => h) (fun hc h => ?_) (fun hc h => ?_)
  · cases h
    exact z_vret hx hq dX6_finds_180
  · refine z_aload_n hx 0 dX6_finds_18 rfl ?_
    refine z_iload_n hx 1 dX6_finds_19 rfl ?_
    refine z_iconst hx (n := 2) dX6_finds_20 ?_
    obtain ⟨r2, σ1, h21, h⟩ := z_bind_some h
    refine z_calli hx (As := [.int (zi x1), .int (zi 2)]) (k := 0) (met_X6_of (z_l C) (z_g C) (z_ok_sd hx) h21) (z_lt1 (z_ok_sd hx) (by decide)) (z_kc0 (z_ok_sd hx) _) rfl rfl cv_X6_92 (z_room hR ⟨Nat.le_of_ble_eq_true rfl, Nat.le_of_ble_eq_true rfl⟩) ⟨rfl, rfl⟩ rfl rfl (Nat.le_of_ble_eq_true rfl) dX6_finds_21 ?_
    refine z_aload_n hx 0 dX6_finds_24 rfl ?_
    refine z_iload_n hx 1 dX6_finds_25 rfl ?_
    refine z_iconst hx (n := 1) dX6_finds_26 ?_
    obtain ⟨r4, σ3, h27, h⟩ := z_bind_some h
    refine z_calli hx (As := [.int (zi x1), .int (zi 1)]) (k := 0) (met_X6_of (z_l C) (z_g C) (z_ok_sd hx) h27) (z_lt1 (z_ok_sd hx) (by decide)) (z_kc0 (z_ok_sd hx) _) rfl rfl cv_X6_92 (z_room hR ⟨Nat.le_of_ble_eq_true rfl, Nat.le_of_ble_eq_true rfl⟩) ⟨rfl, rfl⟩ rfl rfl (Nat.le_of_ble_eq_true rfl) dX6_finds_27 ?_
    refine z_isub hx dX6_finds_30 ?_
    refine z_istore_n hx hn (lv' := [(2, .int (zi (r2 - r4))), (0, .ref (z_ad (z_g C) 0)), (1, .int (zi x1))]) dX6_finds_31 (by decide) rfl ?_
    refine z_aload_n hx 1 dX6_finds_32 rfl ?_
    refine z_iload_n hx 2 dX6_finds_33 rfl ?_
    refine z_iconst hx (n := 4) dX6_finds_34 ?_
    obtain ⟨r6, σ5, h35, h⟩ := z_bind_some h
    refine z_calli hx (As := [.int (zi x1), .int (zi 4)]) (k := 0) (met_X6_of (z_l C) (z_g C) (z_ok_sd hx) h35) (z_lt1 (z_ok_sd hx) (by decide)) (z_kc0 (z_ok_sd hx) _) rfl rfl cv_X6_92 (z_room hR ⟨Nat.le_of_ble_eq_true rfl, Nat.le_of_ble_eq_true rfl⟩) ⟨rfl, rfl⟩ rfl rfl (Nat.le_of_ble_eq_true rfl) dX6_finds_35 ?_
    refine z_if_ne hx (tgt := 73) dX6_finds_38 (by decide) h (fun h => h) (fun hc h => ?_) (fun hc h => ?_)
    · refine z_sub [1, 2, 0] rfl ?_
      exact w_X6_finds_b73 hx hn hR hq hK7 σ5 x1 (r2 - r4) h
    · refine z_aload_n hx 1 dX6_finds_41 rfl ?_
      refine z_iload_n hx 2 dX6_finds_42 rfl ?_
      refine z_iconst hx (n := 0) dX6_finds_43 ?_
      obtain ⟨r8, σ7, h44, h⟩ := z_bind_some h
      refine z_calli hx (As := [.int (zi x1), .int (zi 0)]) (k := 0) (met_X6_of (z_l C) (z_g C) (z_ok_sd hx) h44) (z_lt1 (z_ok_sd hx) (by decide)) (z_kc0 (z_ok_sd hx) _) rfl rfl cv_X6_92 (z_room hR ⟨Nat.le_of_ble_eq_true rfl, Nat.le_of_ble_eq_true rfl⟩) ⟨rfl, rfl⟩ rfl rfl (Nat.le_of_ble_eq_true rfl) dX6_finds_44 ?_
      refine z_if_ne hx (tgt := 73) dX6_finds_47 (by decide) h (fun h => h) (fun hc h => ?_) (fun hc h => ?_)
      · refine z_sub [1, 2, 0] rfl ?_
        exact w_X6_finds_b73 hx hn hR hq hK7 σ7 x1 (r2 - r4) h
      · refine z_aload_n hx 1 dX6_finds_50 rfl ?_
        refine z_iload_n hx 2 dX6_finds_51 rfl ?_
        refine z_iconst hx (n := 3) dX6_finds_52 ?_
        obtain ⟨r10, σ9, h53, h⟩ := z_bind_some h
        refine z_calli hx (As := [.int (zi x1), .int (zi 3)]) (k := 0) (met_X6_of (z_l C) (z_g C) (z_ok_sd hx) h53) (z_lt1 (z_ok_sd hx) (by decide)) (z_kc0 (z_ok_sd hx) _) rfl rfl cv_X6_92 (z_room hR ⟨Nat.le_of_ble_eq_true rfl, Nat.le_of_ble_eq_true rfl⟩) ⟨rfl, rfl⟩ rfl rfl (Nat.le_of_ble_eq_true rfl) dX6_finds_53 ?_
        refine z_aload_n hx 1 dX6_finds_56 rfl ?_
        refine gf_X6_v hx wf_X6_7 dX6_finds_57 ?_
        refine z_iconst hx (n := 0) dX6_finds_60 ?_
        refine z_iald hx (n := 320) (z_lt1 (z_ok_sd hx) (by decide)) (z_kc1 (z_ok_sd hx) _) rfl (by decide) dX6_finds_61 h (fun h => ?_)
        refine z_icmp_gt hx (tgt := 73) dX6_finds_62 (by decide) h (fun h => h) (fun hc h => ?_) (fun hc h => ?_)
        · refine z_sub [1, 2, 0] rfl ?_
          exact w_X6_finds_b73 hx hn hR hq hK7 σ9 x1 (r2 - r4) h
        · refine z_aload_n hx 1 dX6_finds_65 rfl ?_
          refine z_iload_n hx 2 dX6_finds_66 rfl ?_
          obtain ⟨⟨⟩, σ11, h67, h⟩ := z_bind_some h
          refine z_callv hx (As := [.int (zi x1)]) (k := 0) (met_X6_fills (z_l C) (z_g C) (z_ok_sd hx) h67) (z_lt1 (z_ok_sd hx) (by decide)) (z_kc0 (z_ok_sd hx) _) rfl rfl cv_X6_119 (z_room hR ⟨Nat.le_of_ble_eq_true rfl, Nat.le_of_ble_eq_true rfl⟩) ⟨rfl, rfl⟩ rfl rfl (Nat.le_of_ble_eq_true rfl) dX6_finds_67 ?_
          refine z_goto hx (tgt := 174) dX6_finds_70 (by decide) ?_
          refine z_sub [1, 2] rfl ?_
          exact w_X6_finds_b174 hx hn hR hq hK7 σ11 x1 h

theorem w_X6_finds_l7 {C : zC} (hx : z_ok C cX6_finds RX6 1) (hn : z_nL C = 3) (hR : z_R C = rm_X6_finds) {rr : Unit × zS} (hq : z_fin C none (z_QV (z_g C) rr.2)) : ∀ (n : Nat) (σ : zS) (x1 : Int) (_ : f_X6_finds_l7 n σ x1 = some rr), z_W C σ 7 [(0, .ref (z_ad (z_g C) 0)), (1, .int (zi x1))] [] := by
  intro n
  induction n with
  | zero => intro σ x1 h; cases h
  | succ n ih =>
    intro σ x1 h
    exact w_X6_finds_b7 hx hn hR hq ih σ x1 h
theorem w_X6_finds {C : zC} (hx : z_ok C cX6_finds RX6 1) (hn : z_nL C = 3) (hR : z_R C = rm_X6_finds) {rr : Unit × zS} (hq : z_fin C none (z_QV (z_g C) rr.2)) (σ : zS) (h : f_X6_finds σ = some rr) : z_W C σ 0 [(0, .ref (z_ad (z_g C) 0))] [] := by
  unfold f_X6_finds at h
  refine z_aload_n hx 0 dX6_finds_0 rfl ?_
  refine z_iconst hx (n := 0) dX6_finds_1 ?_
  refine pf_X6_cutMany hx wf_X6_108 dX6_finds_2 h (fun σ1 h => ?_)
  refine z_iconst hx (n := 0) dX6_finds_5 ?_
  refine z_istore_n hx hn (lv' := [(1, .int (zi 0)), (0, .ref (z_ad (z_g C) 0))]) dX6_finds_6 (by decide) rfl ?_
  refine z_sub [1, 0] rfl ?_
  exact w_X6_finds_l7 hx hn hR hq z_fuel σ1 0 h

theorem met_X6_finds (l : Launch) (g : zG) (hg : g.1 = 1) {σ : zS} {rr : Unit × zS} (h : f_X6_finds σ = some rr) : z_Met l yX6_finds cX6_finds 3 none rm_X6_finds g [.ref (z_ad (g) 0)] σ (z_QV g rr.2) := by
  refine z_enter (own := RX6) (sd := 1) (lv0 := [(0, .ref (z_ad (g) 0))]) (by decide) rfl (Nat.le_of_ble_eq_true rfl) hg rfl (fun C hx hl hgC hR hn hq => ?_)
  subst hgC
  refine z_sub [0] rfl ?_
  exact w_X6_finds hx hn hR hq σ h
theorem dX6_cutOf_0 : decode cX6_cutOf 0 = .ok (.bipush (-9), 2) := by decide +kernel
theorem dX6_cutOf_2 : decode cX6_cutOf 2 = .ok (.istore_n 2, 1) := by decide +kernel
theorem dX6_cutOf_3 : decode cX6_cutOf 3 = .ok (.iconst 0, 1) := by decide +kernel
theorem dX6_cutOf_4 : decode cX6_cutOf 4 = .ok (.istore_n 3, 1) := by decide +kernel
theorem dX6_cutOf_5 : decode cX6_cutOf 5 = .ok (.iload_n 3, 1) := by decide +kernel
theorem dX6_cutOf_6 : decode cX6_cutOf 6 = .ok (.aload_n 0, 1) := by decide +kernel
theorem dX6_cutOf_7 : decode cX6_cutOf 7 = .ok (.getfield 108, 3) := by decide +kernel
theorem dX6_cutOf_10 : decode cX6_cutOf 10 = .ok (.if_icmp .ge 29, 3) := by decide +kernel
theorem dX6_cutOf_13 : decode cX6_cutOf 13 = .ok (.aload_n 0, 1) := by decide +kernel
theorem dX6_cutOf_14 : decode cX6_cutOf 14 = .ok (.getfield 25, 3) := by decide +kernel
theorem dX6_cutOf_17 : decode cX6_cutOf 17 = .ok (.iconst 5, 1) := by decide +kernel
theorem dX6_cutOf_18 : decode cX6_cutOf 18 = .ok (.iload_n 3, 1) := by decide +kernel
theorem dX6_cutOf_19 : decode cX6_cutOf 19 = .ok (.imul, 1) := by decide +kernel
theorem dX6_cutOf_20 : decode cX6_cutOf 20 = .ok (.iconst 4, 1) := by decide +kernel
theorem dX6_cutOf_21 : decode cX6_cutOf 21 = .ok (.iadd, 1) := by decide +kernel
theorem dX6_cutOf_22 : decode cX6_cutOf 22 = .ok (.iaload, 1) := by decide +kernel
theorem dX6_cutOf_23 : decode cX6_cutOf 23 = .ok (.iload_n 1, 1) := by decide +kernel
theorem dX6_cutOf_24 : decode cX6_cutOf 24 = .ok (.if_icmp .ne 7, 3) := by decide +kernel
theorem dX6_cutOf_27 : decode cX6_cutOf 27 = .ok (.iload_n 3, 1) := by decide +kernel
theorem dX6_cutOf_28 : decode cX6_cutOf 28 = .ok (.goto 4, 3) := by decide +kernel
theorem dX6_cutOf_31 : decode cX6_cutOf 31 = .ok (.iload_n 2, 1) := by decide +kernel
theorem dX6_cutOf_32 : decode cX6_cutOf 32 = .ok (.istore_n 2, 1) := by decide +kernel
theorem dX6_cutOf_33 : decode cX6_cutOf 33 = .ok (.iinc 3 1, 3) := by decide +kernel
theorem dX6_cutOf_36 : decode cX6_cutOf 36 = .ok (.goto (-31), 3) := by decide +kernel
theorem dX6_cutOf_39 : decode cX6_cutOf 39 = .ok (.iload_n 2, 1) := by decide +kernel
theorem dX6_cutOf_40 : decode cX6_cutOf 40 = .ok (.ireturn, 1) := by decide +kernel
abbrev rm_X6_cutOf : Room := { frames := 0, cells := 0, slots := 0, locals := 0 }
theorem w_X6_cutOf_b32 {C : zC} (hx : z_ok C cX6_cutOf RX6 1) (hn : z_nL C = 4) (hR : z_R C = rm_X6_cutOf) {rr : Int × zS} (hq : z_fin C (some .int) (z_QI (z_g C) rr.1 rr.2)) {K5 : zS → Int → Int → Int → Option (Int × zS)} (hK5 : ∀ (σ : zS) (x1 : Int) (x2 : Int) (x3 : Int) , K5 σ x1 x2 x3 = some rr → z_W C σ 5 [(0, .ref (z_ad (z_g C) 0)), (1, .int (zi x1)), (2, .int (zi x2)), (3, .int (zi x3))] []) (σ : zS) (x1 : Int) (x3 : Int) (s0 : Int) (h : f_X6_cutOf_b32 K5 σ x1 x3 s0 = some rr) : z_W C σ 32 [(0, .ref (z_ad (z_g C) 0)), (1, .int (zi x1)), (3, .int (zi x3))] [.int (zi s0)] := by
  unfold f_X6_cutOf_b32 at h
  refine z_istore_n hx hn (lv' := [(2, .int (zi s0)), (0, .ref (z_ad (z_g C) 0)), (1, .int (zi x1)), (3, .int (zi x3))]) dX6_cutOf_32 (by decide) rfl ?_
  refine z_iinc hx hn 3 (lv' := [(3, .int (zi (x3 + 1))), (2, .int (zi s0)), (0, .ref (z_ad (z_g C) 0)), (1, .int (zi x1))]) dX6_cutOf_33 rfl (by decide) rfl ?_
  refine z_goto hx (tgt := 5) dX6_cutOf_36 (by decide) ?_
  refine z_sub [2, 3, 1, 0] rfl ?_
  exact hK5 σ x1 s0 (x3 + 1) h

theorem w_X6_cutOf_b5 {C : zC} (hx : z_ok C cX6_cutOf RX6 1) (hn : z_nL C = 4) (hR : z_R C = rm_X6_cutOf) {rr : Int × zS} (hq : z_fin C (some .int) (z_QI (z_g C) rr.1 rr.2)) {K5 : zS → Int → Int → Int → Option (Int × zS)} (hK5 : ∀ (σ : zS) (x1 : Int) (x2 : Int) (x3 : Int) , K5 σ x1 x2 x3 = some rr → z_W C σ 5 [(0, .ref (z_ad (z_g C) 0)), (1, .int (zi x1)), (2, .int (zi x2)), (3, .int (zi x3))] []) (σ : zS) (x1 : Int) (x2 : Int) (x3 : Int) (h : f_X6_cutOf_b5 K5 σ x1 x2 x3 = some rr) : z_W C σ 5 [(0, .ref (z_ad (z_g C) 0)), (1, .int (zi x1)), (2, .int (zi x2)), (3, .int (zi x3))] [] := by
  unfold f_X6_cutOf_b5 at h
  refine z_iload_n hx 3 dX6_cutOf_5 rfl ?_
  refine z_aload_n hx 0 dX6_cutOf_6 rfl ?_
  refine gf_X6_cutMany hx wf_X6_108 dX6_cutOf_7 ?_
  refine z_icmp_ge hx (tgt := 39) dX6_cutOf_10 (by decide) h (fun h => h) (fun hc h => ?_) (fun hc h => ?_)
  · refine z_iload_n hx 2 dX6_cutOf_39 rfl ?_
    cases h
    exact z_iret hx hq dX6_cutOf_40
  · refine z_aload_n hx 0 dX6_cutOf_13 rfl ?_
    refine gf_X6_cut hx wf_X6_25 dX6_cutOf_14 ?_
    refine z_iconst hx (n := 5) dX6_cutOf_17 ?_
    refine z_iload_n hx 3 dX6_cutOf_18 rfl ?_
    refine z_imul hx dX6_cutOf_19 ?_
    refine z_iconst hx (n := 4) dX6_cutOf_20 ?_
    refine z_iadd hx dX6_cutOf_21 ?_
    refine z_iald hx (n := 100) (z_lt1 (z_ok_sd hx) (by decide)) (z_kc6 (z_ok_sd hx) _) rfl (by decide) dX6_cutOf_22 h (fun h => ?_)
    refine z_iload_n hx 1 dX6_cutOf_23 rfl ?_
    refine z_icmp_ne hx (tgt := 31) dX6_cutOf_24 (by decide) h (fun h => h) (fun hc h => ?_) (fun hc h => ?_)
    · refine z_iload_n hx 2 dX6_cutOf_31 rfl ?_
      refine z_sub [0, 1, 3] rfl ?_
      exact w_X6_cutOf_b32 hx hn hR hq hK5 σ x1 x3 x2 h
    · refine z_iload_n hx 3 dX6_cutOf_27 rfl ?_
      refine z_goto hx (tgt := 32) dX6_cutOf_28 (by decide) ?_
      refine z_sub [0, 1, 3] rfl ?_
      exact w_X6_cutOf_b32 hx hn hR hq hK5 σ x1 x3 x3 h

theorem w_X6_cutOf_l5 {C : zC} (hx : z_ok C cX6_cutOf RX6 1) (hn : z_nL C = 4) (hR : z_R C = rm_X6_cutOf) {rr : Int × zS} (hq : z_fin C (some .int) (z_QI (z_g C) rr.1 rr.2)) : ∀ (n : Nat) (σ : zS) (x1 : Int) (x2 : Int) (x3 : Int) (_ : f_X6_cutOf_l5 n σ x1 x2 x3 = some rr), z_W C σ 5 [(0, .ref (z_ad (z_g C) 0)), (1, .int (zi x1)), (2, .int (zi x2)), (3, .int (zi x3))] [] := by
  intro n
  induction n with
  | zero => intro σ x1 x2 x3 h; cases h
  | succ n ih =>
    intro σ x1 x2 x3 h
    exact w_X6_cutOf_b5 hx hn hR hq ih σ x1 x2 x3 h
theorem w_X6_cutOf {C : zC} (hx : z_ok C cX6_cutOf RX6 1) (hn : z_nL C = 4) (hR : z_R C = rm_X6_cutOf) {rr : Int × zS} (hq : z_fin C (some .int) (z_QI (z_g C) rr.1 rr.2)) (σ : zS) (x1 : Int) (h : f_X6_cutOf σ x1 = some rr) : z_W C σ 0 [(0, .ref (z_ad (z_g C) 0)), (1, .int (zi x1))] [] := by
  unfold f_X6_cutOf at h
  refine z_bipush hx (n := (-9)) dX6_cutOf_0 rfl ?_
  refine z_istore_n hx hn (lv' := [(2, .int (zi (-9))), (0, .ref (z_ad (z_g C) 0)), (1, .int (zi x1))]) dX6_cutOf_2 (by decide) rfl ?_
  refine z_iconst hx (n := 0) dX6_cutOf_3 ?_
  refine z_istore_n hx hn (lv' := [(3, .int (zi 0)), (2, .int (zi (-9))), (0, .ref (z_ad (z_g C) 0)), (1, .int (zi x1))]) dX6_cutOf_4 (by decide) rfl ?_
  refine z_sub [2, 3, 1, 0] rfl ?_
  exact w_X6_cutOf_l5 hx hn hR hq z_fuel σ x1 (-9) 0 h

theorem met_X6_cutOf (l : Launch) (g : zG) (hg : g.1 = 1) {σ : zS} {x1 : Int} {rr : Int × zS} (h : f_X6_cutOf σ x1 = some rr) : z_Met l yX6_cutOf cX6_cutOf 4 (some .int) rm_X6_cutOf g [.ref (z_ad (g) 0), .int (zi x1)] σ (z_QI g rr.1 rr.2) := by
  refine z_enter (own := RX6) (sd := 1) (lv0 := [(0, .ref (z_ad (g) 0)), (1, .int (zi x1))]) (by decide) rfl (Nat.le_of_ble_eq_true rfl) hg rfl (fun C hx hl hgC hR hn hq => ?_)
  subst hgC
  refine z_sub [0, 1] rfl ?_
  exact w_X6_cutOf hx hn hR hq σ x1 h
theorem dX6_told_0 : decode cX6_told 0 = .ok (.iload_n 2, 1) := by decide +kernel
theorem dX6_told_1 : decode cX6_told 1 = .ok (.iconst 5, 1) := by decide +kernel
theorem dX6_told_2 : decode cX6_told 2 = .ok (.if_icmp .ge 12, 3) := by decide +kernel
theorem dX6_told_5 : decode cX6_told 5 = .ok (.aload_n 0, 1) := by decide +kernel
theorem dX6_told_6 : decode cX6_told 6 = .ok (.iload_n 1, 1) := by decide +kernel
theorem dX6_told_7 : decode cX6_told 7 = .ok (.iload_n 2, 1) := by decide +kernel
theorem dX6_told_8 : decode cX6_told 8 = .ok (.invokevirtual 92, 3) := by decide +kernel
theorem dX6_told_11 : decode cX6_told 11 = .ok (.goto 8, 3) := by decide +kernel
theorem dX6_told_14 : decode cX6_told 14 = .ok (.aload_n 0, 1) := by decide +kernel
theorem dX6_told_15 : decode cX6_told 15 = .ok (.iload_n 1, 1) := by decide +kernel
theorem dX6_told_16 : decode cX6_told 16 = .ok (.invokevirtual 123, 3) := by decide +kernel
theorem dX6_told_19 : decode cX6_told 19 = .ok (.ireturn, 1) := by decide +kernel
abbrev rm_X6_told : Room := { frames := 1, cells := 0, slots := 0, locals := 23 }
theorem w_X6_told_b19 {C : zC} (hx : z_ok C cX6_told RX6 1) (hn : z_nL C = 3) (hR : z_R C = rm_X6_told) {rr : Int × zS} (hq : z_fin C (some .int) (z_QI (z_g C) rr.1 rr.2)) (σ : zS) (s0 : Int) (h : f_X6_told_b19 σ s0 = some rr) : z_W C σ 19 [] [.int (zi s0)] := by
  unfold f_X6_told_b19 at h
  cases h
  exact z_iret hx hq dX6_told_19

theorem w_X6_told {C : zC} (hx : z_ok C cX6_told RX6 1) (hn : z_nL C = 3) (hR : z_R C = rm_X6_told) {rr : Int × zS} (hq : z_fin C (some .int) (z_QI (z_g C) rr.1 rr.2)) (σ : zS) (x1 : Int) (x2 : Int) (h : f_X6_told σ x1 x2 = some rr) : z_W C σ 0 [(0, .ref (z_ad (z_g C) 0)), (1, .int (zi x1)), (2, .int (zi x2))] [] := by
  unfold f_X6_told at h
  refine z_iload_n hx 2 dX6_told_0 rfl ?_
  refine z_iconst hx (n := 5) dX6_told_1 ?_
  refine z_icmp_ge hx (tgt := 14) dX6_told_2 (by decide) h (fun h => ⟨h, by decide⟩) (fun hc h => ?_) (fun hc h => ?_)
  · refine z_aload_n hx 0 dX6_told_14 rfl ?_
    refine z_iload_n hx 1 dX6_told_15 rfl ?_
    obtain ⟨r2, σ1, h16, h⟩ := z_bind_some h
    refine z_calli hx (As := [.int (zi x1)]) (k := 0) (met_X6_cutOf (z_l C) (z_g C) (z_ok_sd hx) h16) (z_lt1 (z_ok_sd hx) (by decide)) (z_kc0 (z_ok_sd hx) _) rfl rfl cv_X6_123 (z_room hR ⟨Nat.le_of_ble_eq_true rfl, Nat.le_of_ble_eq_true rfl⟩) ⟨rfl, rfl⟩ rfl rfl (Nat.le_of_ble_eq_true rfl) dX6_told_16 ?_
    refine z_sub [] rfl ?_
    exact w_X6_told_b19 hx hn hR hq σ1 r2 h
  · refine z_aload_n hx 0 dX6_told_5 rfl ?_
    refine z_iload_n hx 1 dX6_told_6 rfl ?_
    refine z_iload_n hx 2 dX6_told_7 rfl ?_
    obtain ⟨r4, σ3, h8, h⟩ := z_bind_some h
    refine z_calli hx (As := [.int (zi x1), .int (zi x2)]) (k := 0) (met_X6_of (z_l C) (z_g C) (z_ok_sd hx) h8) (z_lt1 (z_ok_sd hx) (by decide)) (z_kc0 (z_ok_sd hx) _) rfl rfl cv_X6_92 (z_room hR ⟨Nat.le_of_ble_eq_true rfl, Nat.le_of_ble_eq_true rfl⟩) ⟨rfl, rfl⟩ rfl rfl (Nat.le_of_ble_eq_true rfl) dX6_told_8 ?_
    refine z_goto hx (tgt := 19) dX6_told_11 (by decide) ?_
    refine z_sub [] rfl ?_
    exact w_X6_told_b19 hx hn hR hq σ3 r4 h

theorem met_X6_told (l : Launch) (g : zG) (hg : g.1 = 1) {σ : zS} {x1 : Int} {x2 : Int} {rr : Int × zS} (h : f_X6_told σ x1 x2 = some rr) : z_Met l yX6_told cX6_told 3 (some .int) rm_X6_told g [.ref (z_ad (g) 0), .int (zi x1), .int (zi x2)] σ (z_QI g rr.1 rr.2) := by
  refine z_enter (own := RX6) (sd := 1) (lv0 := [(0, .ref (z_ad (g) 0)), (1, .int (zi x1)), (2, .int (zi x2))]) (by decide) rfl (Nat.le_of_ble_eq_true rfl) hg rfl (fun C hx hl hgC hR hn hq => ?_)
  subst hgC
  refine z_sub [0, 1, 2] rfl ?_
  exact w_X6_told hx hn hR hq σ x1 x2 h
theorem dX6_about_0 : decode cX6_about 0 = .ok (.aload_n 0, 1) := by decide +kernel
theorem dX6_about_1 : decode cX6_about 1 = .ok (.invokevirtual 126, 3) := by decide +kernel
theorem dX6_about_4 : decode cX6_about 4 = .ok (.aload_n 0, 1) := by decide +kernel
theorem dX6_about_5 : decode cX6_about 5 = .ok (.iload_n 1, 1) := by decide +kernel
theorem dX6_about_6 : decode cX6_about 6 = .ok (.invokevirtual 96, 3) := by decide +kernel
theorem dX6_about_9 : decode cX6_about 9 = .ok (.ifCond .eq 21, 3) := by decide +kernel
theorem dX6_about_12 : decode cX6_about 12 = .ok (.iload_n 2, 1) := by decide +kernel
theorem dX6_about_13 : decode cX6_about 13 = .ok (.iconst 0, 1) := by decide +kernel
theorem dX6_about_14 : decode cX6_about 14 = .ok (.iconst 5, 1) := by decide +kernel
theorem dX6_about_15 : decode cX6_about 15 = .ok (.invokestatic 41, 3) := by decide +kernel
theorem dX6_about_18 : decode cX6_about 18 = .ok (.ifCond .eq 12, 3) := by decide +kernel
theorem dX6_about_21 : decode cX6_about 21 = .ok (.aload_n 0, 1) := by decide +kernel
theorem dX6_about_22 : decode cX6_about 22 = .ok (.iload_n 1, 1) := by decide +kernel
theorem dX6_about_23 : decode cX6_about 23 = .ok (.iload_n 2, 1) := by decide +kernel
theorem dX6_about_24 : decode cX6_about 24 = .ok (.invokevirtual 129, 3) := by decide +kernel
theorem dX6_about_27 : decode cX6_about 27 = .ok (.goto 4, 3) := by decide +kernel
theorem dX6_about_30 : decode cX6_about 30 = .ok (.iconst (-1), 1) := by decide +kernel
theorem dX6_about_31 : decode cX6_about 31 = .ok (.ireturn, 1) := by decide +kernel
abbrev rm_X6_about : Room := { frames := 6, cells := 0, slots := 0, locals := 139 }
theorem w_X6_about_b31 {C : zC} (hx : z_ok C cX6_about RX6 1) (hn : z_nL C = 3) (hR : z_R C = rm_X6_about) {rr : Int × zS} (hq : z_fin C (some .int) (z_QI (z_g C) rr.1 rr.2)) (σ : zS) (s0 : Int) (h : f_X6_about_b31 σ s0 = some rr) : z_W C σ 31 [] [.int (zi s0)] := by
  unfold f_X6_about_b31 at h
  cases h
  exact z_iret hx hq dX6_about_31

theorem w_X6_about_b30 {C : zC} (hx : z_ok C cX6_about RX6 1) (hn : z_nL C = 3) (hR : z_R C = rm_X6_about) {rr : Int × zS} (hq : z_fin C (some .int) (z_QI (z_g C) rr.1 rr.2)) (σ : zS) (h : f_X6_about_b30 σ = some rr) : z_W C σ 30 [] [] := by
  unfold f_X6_about_b30 at h
  refine z_iconst hx (n := (-1)) dX6_about_30 ?_
  refine z_sub [] rfl ?_
  exact w_X6_about_b31 hx hn hR hq σ (-1) h

theorem w_X6_about {C : zC} (hx : z_ok C cX6_about RX6 1) (hn : z_nL C = 3) (hR : z_R C = rm_X6_about) {rr : Int × zS} (hq : z_fin C (some .int) (z_QI (z_g C) rr.1 rr.2)) (σ : zS) (x1 : Int) (x2 : Int) (h : f_X6_about σ x1 x2 = some rr) : z_W C σ 0 [(0, .ref (z_ad (z_g C) 0)), (1, .int (zi x1)), (2, .int (zi x2))] [] := by
  unfold f_X6_about at h
  refine z_aload_n hx 0 dX6_about_0 rfl ?_
  obtain ⟨⟨⟩, σ1, h1, h⟩ := z_bind_some h
  refine z_callv hx (As := []) (k := 0) (met_X6_finds (z_l C) (z_g C) (z_ok_sd hx) h1) (z_lt1 (z_ok_sd hx) (by decide)) (z_kc0 (z_ok_sd hx) _) rfl rfl cv_X6_126 (z_room hR ⟨Nat.le_of_ble_eq_true rfl, Nat.le_of_ble_eq_true rfl⟩) ⟨rfl, rfl⟩ rfl rfl (Nat.le_of_ble_eq_true rfl) dX6_about_1 ?_
  refine z_aload_n hx 0 dX6_about_4 rfl ?_
  refine z_iload_n hx 1 dX6_about_5 rfl ?_
  obtain ⟨r3, σ2, h6, h⟩ := z_bind_some h
  refine z_calli hx (As := [.int (zi x1)]) (k := 0) (met_X6_isMark (z_l C) (z_g C) (z_ok_sd hx) h6) (z_lt1 (z_ok_sd hx) (by decide)) (z_kc0 (z_ok_sd hx) _) rfl rfl cv_X6_96 (z_room hR ⟨Nat.le_of_ble_eq_true rfl, Nat.le_of_ble_eq_true rfl⟩) ⟨rfl, rfl⟩ rfl rfl (Nat.le_of_ble_eq_true rfl) dX6_about_6 ?_
  refine z_if_eq hx (tgt := 30) dX6_about_9 (by decide) h (fun h => h) (fun hc h => ?_) (fun hc h => ?_)
  · refine z_sub [] rfl ?_
    exact w_X6_about_b30 hx hn hR hq σ2 h
  · refine z_iload_n hx 2 dX6_about_12 rfl ?_
    refine z_iconst hx (n := 0) dX6_about_13 ?_
    refine z_iconst hx (n := 5) dX6_about_14 ?_
    obtain ⟨r5, σ4, h15, h⟩ := z_bind_some h
    refine z_calls hx (As := [.int (zi x2), .int (zi 0), .int (zi 5)]) (met_X6_in (z_l C) (z_g C) (z_ok_sd hx) h15) cv_X6_41 (z_room hR ⟨Nat.le_of_ble_eq_true rfl, Nat.le_of_ble_eq_true rfl⟩) ⟨rfl, rfl⟩ rfl rfl (Nat.le_of_ble_eq_true rfl) dX6_about_15 ?_
    refine z_if_eq hx (tgt := 30) dX6_about_18 (by decide) h (fun h => h) (fun hc h => ?_) (fun hc h => ?_)
    · refine z_sub [] rfl ?_
      exact w_X6_about_b30 hx hn hR hq σ4 h
    · refine z_aload_n hx 0 dX6_about_21 rfl ?_
      refine z_iload_n hx 1 dX6_about_22 rfl ?_
      refine z_iload_n hx 2 dX6_about_23 rfl ?_
      obtain ⟨r7, σ6, h24, h⟩ := z_bind_some h
      refine z_calli hx (As := [.int (zi x1), .int (zi x2)]) (k := 0) (met_X6_told (z_l C) (z_g C) (z_ok_sd hx) h24) (z_lt1 (z_ok_sd hx) (by decide)) (z_kc0 (z_ok_sd hx) _) rfl rfl cv_X6_129 (z_room hR ⟨Nat.le_of_ble_eq_true rfl, Nat.le_of_ble_eq_true rfl⟩) ⟨rfl, rfl⟩ rfl rfl (Nat.le_of_ble_eq_true rfl) dX6_about_24 ?_
      refine z_goto hx (tgt := 31) dX6_about_27 (by decide) ?_
      refine z_sub [] rfl ?_
      exact w_X6_about_b31 hx hn hR hq σ6 r7 h

theorem met_X6_about (l : Launch) (g : zG) (hg : g.1 = 1) {σ : zS} {x1 : Int} {x2 : Int} {rr : Int × zS} (h : f_X6_about σ x1 x2 = some rr) : z_Met l yX6_about cX6_about 3 (some .int) rm_X6_about g [.ref (z_ad (g) 0), .int (zi x1), .int (zi x2)] σ (z_QI g rr.1 rr.2) := by
  refine z_enter (own := RX6) (sd := 1) (lv0 := [(0, .ref (z_ad (g) 0)), (1, .int (zi x1)), (2, .int (zi x2))]) (by decide) rfl (Nat.le_of_ble_eq_true rfl) hg rfl (fun C hx hl hgC hR hn hq => ?_)
  subst hgC
  refine z_sub [0, 1, 2] rfl ?_
  exact w_X6_about hx hn hR hq σ x1 x2 h
theorem dX6_cuts_0 : decode cX6_cuts 0 = .ok (.aload_n 0, 1) := by decide +kernel
theorem dX6_cuts_1 : decode cX6_cuts 1 = .ok (.invokevirtual 126, 3) := by decide +kernel
theorem dX6_cuts_4 : decode cX6_cuts 4 = .ok (.aload_n 0, 1) := by decide +kernel
theorem dX6_cuts_5 : decode cX6_cuts 5 = .ok (.getfield 108, 3) := by decide +kernel
theorem dX6_cuts_8 : decode cX6_cuts 8 = .ok (.ireturn, 1) := by decide +kernel
abbrev rm_X6_cuts : Room := { frames := 6, cells := 0, slots := 0, locals := 139 }
theorem w_X6_cuts {C : zC} (hx : z_ok C cX6_cuts RX6 1) (hn : z_nL C = 1) (hR : z_R C = rm_X6_cuts) {rr : Int × zS} (hq : z_fin C (some .int) (z_QI (z_g C) rr.1 rr.2)) (σ : zS) (h : f_X6_cuts σ = some rr) : z_W C σ 0 [(0, .ref (z_ad (z_g C) 0))] [] := by
  unfold f_X6_cuts at h
  refine z_aload_n hx 0 dX6_cuts_0 rfl ?_
  obtain ⟨⟨⟩, σ1, h1, h⟩ := z_bind_some h
  refine z_callv hx (As := []) (k := 0) (met_X6_finds (z_l C) (z_g C) (z_ok_sd hx) h1) (z_lt1 (z_ok_sd hx) (by decide)) (z_kc0 (z_ok_sd hx) _) rfl rfl cv_X6_126 (z_room hR ⟨Nat.le_of_ble_eq_true rfl, Nat.le_of_ble_eq_true rfl⟩) ⟨rfl, rfl⟩ rfl rfl (Nat.le_of_ble_eq_true rfl) dX6_cuts_1 ?_
  refine z_aload_n hx 0 dX6_cuts_4 rfl ?_
  refine gf_X6_cutMany hx wf_X6_108 dX6_cuts_5 ?_
  cases h
  exact z_iret hx hq dX6_cuts_8

theorem met_X6_cuts (l : Launch) (g : zG) (hg : g.1 = 1) {σ : zS} {rr : Int × zS} (h : f_X6_cuts σ = some rr) : z_Met l yX6_cuts cX6_cuts 1 (some .int) rm_X6_cuts g [.ref (z_ad (g) 0)] σ (z_QI g rr.1 rr.2) := by
  refine z_enter (own := RX6) (sd := 1) (lv0 := [(0, .ref (z_ad (g) 0))]) (by decide) rfl (Nat.le_of_ble_eq_true rfl) hg rfl (fun C hx hl hgC hR hn hq => ?_)
  subst hgC
  refine z_sub [0] rfl ?_
  exact w_X6_cuts hx hn hR hq σ h
theorem dX6_cut_0 : decode cX6_cut 0 = .ok (.aload_n 0, 1) := by decide +kernel
theorem dX6_cut_1 : decode cX6_cut 1 = .ok (.invokevirtual 126, 3) := by decide +kernel
theorem dX6_cut_4 : decode cX6_cut 4 = .ok (.iload_n 1, 1) := by decide +kernel
theorem dX6_cut_5 : decode cX6_cut 5 = .ok (.iconst 0, 1) := by decide +kernel
theorem dX6_cut_6 : decode cX6_cut 6 = .ok (.aload_n 0, 1) := by decide +kernel
theorem dX6_cut_7 : decode cX6_cut 7 = .ok (.getfield 108, 3) := by decide +kernel
theorem dX6_cut_10 : decode cX6_cut 10 = .ok (.iconst 1, 1) := by decide +kernel
theorem dX6_cut_11 : decode cX6_cut 11 = .ok (.isub, 1) := by decide +kernel
theorem dX6_cut_12 : decode cX6_cut 12 = .ok (.invokestatic 41, 3) := by decide +kernel
theorem dX6_cut_15 : decode cX6_cut 15 = .ok (.ifCond .eq 25, 3) := by decide +kernel
theorem dX6_cut_18 : decode cX6_cut 18 = .ok (.iload_n 2, 1) := by decide +kernel
theorem dX6_cut_19 : decode cX6_cut 19 = .ok (.iconst 0, 1) := by decide +kernel
theorem dX6_cut_20 : decode cX6_cut 20 = .ok (.iconst 4, 1) := by decide +kernel
theorem dX6_cut_21 : decode cX6_cut 21 = .ok (.invokestatic 41, 3) := by decide +kernel
theorem dX6_cut_24 : decode cX6_cut 24 = .ok (.ifCond .eq 16, 3) := by decide +kernel
theorem dX6_cut_27 : decode cX6_cut 27 = .ok (.aload_n 0, 1) := by decide +kernel
theorem dX6_cut_28 : decode cX6_cut 28 = .ok (.getfield 25, 3) := by decide +kernel
theorem dX6_cut_31 : decode cX6_cut 31 = .ok (.iconst 5, 1) := by decide +kernel
theorem dX6_cut_32 : decode cX6_cut 32 = .ok (.iload_n 1, 1) := by decide +kernel
theorem dX6_cut_33 : decode cX6_cut 33 = .ok (.imul, 1) := by decide +kernel
theorem dX6_cut_34 : decode cX6_cut 34 = .ok (.iload_n 2, 1) := by decide +kernel
theorem dX6_cut_35 : decode cX6_cut 35 = .ok (.iadd, 1) := by decide +kernel
theorem dX6_cut_36 : decode cX6_cut 36 = .ok (.iaload, 1) := by decide +kernel
theorem dX6_cut_37 : decode cX6_cut 37 = .ok (.goto 4, 3) := by decide +kernel
theorem dX6_cut_40 : decode cX6_cut 40 = .ok (.iconst (-1), 1) := by decide +kernel
theorem dX6_cut_41 : decode cX6_cut 41 = .ok (.ireturn, 1) := by decide +kernel
abbrev rm_X6_cut : Room := { frames := 6, cells := 0, slots := 0, locals := 139 }
theorem w_X6_cut_b41 {C : zC} (hx : z_ok C cX6_cut RX6 1) (hn : z_nL C = 3) (hR : z_R C = rm_X6_cut) {rr : Int × zS} (hq : z_fin C (some .int) (z_QI (z_g C) rr.1 rr.2)) (σ : zS) (s0 : Int) (h : f_X6_cut_b41 σ s0 = some rr) : z_W C σ 41 [] [.int (zi s0)] := by
  unfold f_X6_cut_b41 at h
  cases h
  exact z_iret hx hq dX6_cut_41

theorem w_X6_cut_b40 {C : zC} (hx : z_ok C cX6_cut RX6 1) (hn : z_nL C = 3) (hR : z_R C = rm_X6_cut) {rr : Int × zS} (hq : z_fin C (some .int) (z_QI (z_g C) rr.1 rr.2)) (σ : zS) (h : f_X6_cut_b40 σ = some rr) : z_W C σ 40 [] [] := by
  unfold f_X6_cut_b40 at h
  refine z_iconst hx (n := (-1)) dX6_cut_40 ?_
  refine z_sub [] rfl ?_
  exact w_X6_cut_b41 hx hn hR hq σ (-1) h

theorem w_X6_cut {C : zC} (hx : z_ok C cX6_cut RX6 1) (hn : z_nL C = 3) (hR : z_R C = rm_X6_cut) {rr : Int × zS} (hq : z_fin C (some .int) (z_QI (z_g C) rr.1 rr.2)) (σ : zS) (x1 : Int) (x2 : Int) (h : f_X6_cut σ x1 x2 = some rr) : z_W C σ 0 [(0, .ref (z_ad (z_g C) 0)), (1, .int (zi x1)), (2, .int (zi x2))] [] := by
  unfold f_X6_cut at h
  refine z_aload_n hx 0 dX6_cut_0 rfl ?_
  obtain ⟨⟨⟩, σ1, h1, h⟩ := z_bind_some h
  refine z_callv hx (As := []) (k := 0) (met_X6_finds (z_l C) (z_g C) (z_ok_sd hx) h1) (z_lt1 (z_ok_sd hx) (by decide)) (z_kc0 (z_ok_sd hx) _) rfl rfl cv_X6_126 (z_room hR ⟨Nat.le_of_ble_eq_true rfl, Nat.le_of_ble_eq_true rfl⟩) ⟨rfl, rfl⟩ rfl rfl (Nat.le_of_ble_eq_true rfl) dX6_cut_1 ?_
  refine z_iload_n hx 1 dX6_cut_4 rfl ?_
  refine z_iconst hx (n := 0) dX6_cut_5 ?_
  refine z_aload_n hx 0 dX6_cut_6 rfl ?_
  refine gf_X6_cutMany hx wf_X6_108 dX6_cut_7 ?_
  refine z_iconst hx (n := 1) dX6_cut_10 ?_
  refine z_isub hx dX6_cut_11 ?_
  obtain ⟨r3, σ2, h12, h⟩ := z_bind_some h
  refine z_calls hx (As := [.int (zi x1), .int (zi 0), .int (zi ((σ1 0 12) - 1))]) (met_X6_in (z_l C) (z_g C) (z_ok_sd hx) h12) cv_X6_41 (z_room hR ⟨Nat.le_of_ble_eq_true rfl, Nat.le_of_ble_eq_true rfl⟩) ⟨rfl, rfl⟩ rfl rfl (Nat.le_of_ble_eq_true rfl) dX6_cut_12 ?_
  refine z_if_eq hx (tgt := 40) dX6_cut_15 (by decide) h (fun h => h) (fun hc h => ?_) (fun hc h => ?_)
  · refine z_sub [] rfl ?_
    exact w_X6_cut_b40 hx hn hR hq σ2 h
  · refine z_iload_n hx 2 dX6_cut_18 rfl ?_
    refine z_iconst hx (n := 0) dX6_cut_19 ?_
    refine z_iconst hx (n := 4) dX6_cut_20 ?_
    obtain ⟨r5, σ4, h21, h⟩ := z_bind_some h
    refine z_calls hx (As := [.int (zi x2), .int (zi 0), .int (zi 4)]) (met_X6_in (z_l C) (z_g C) (z_ok_sd hx) h21) cv_X6_41 (z_room hR ⟨Nat.le_of_ble_eq_true rfl, Nat.le_of_ble_eq_true rfl⟩) ⟨rfl, rfl⟩ rfl rfl (Nat.le_of_ble_eq_true rfl) dX6_cut_21 ?_
    refine z_if_eq hx (tgt := 40) dX6_cut_24 (by decide) h (fun h => h) (fun hc h => ?_) (fun hc h => ?_)
    · refine z_sub [] rfl ?_
      exact w_X6_cut_b40 hx hn hR hq σ4 h
    · refine z_aload_n hx 0 dX6_cut_27 rfl ?_
      refine gf_X6_cut hx wf_X6_25 dX6_cut_28 ?_
      refine z_iconst hx (n := 5) dX6_cut_31 ?_
      refine z_iload_n hx 1 dX6_cut_32 rfl ?_
      refine z_imul hx dX6_cut_33 ?_
      refine z_iload_n hx 2 dX6_cut_34 rfl ?_
      refine z_iadd hx dX6_cut_35 ?_
      refine z_iald hx (n := 100) (z_lt1 (z_ok_sd hx) (by decide)) (z_kc6 (z_ok_sd hx) _) rfl (by decide) dX6_cut_36 h (fun h => ?_)
      refine z_goto hx (tgt := 41) dX6_cut_37 (by decide) ?_
      refine z_sub [] rfl ?_
      exact w_X6_cut_b41 hx hn hR hq σ4 (σ4 6 ((5 * x1) + x2)) h

theorem met_X6_cut (l : Launch) (g : zG) (hg : g.1 = 1) {σ : zS} {x1 : Int} {x2 : Int} {rr : Int × zS} (h : f_X6_cut σ x1 x2 = some rr) : z_Met l yX6_cut cX6_cut 3 (some .int) rm_X6_cut g [.ref (z_ad (g) 0), .int (zi x1), .int (zi x2)] σ (z_QI g rr.1 rr.2) := by
  refine z_enter (own := RX6) (sd := 1) (lv0 := [(0, .ref (z_ad (g) 0)), (1, .int (zi x1)), (2, .int (zi x2))]) (by decide) rfl (Nat.le_of_ble_eq_true rfl) hg rfl (fun C hx hl hgC hR hn hq => ?_)
  subst hgC
  refine z_sub [0, 1, 2] rfl ?_
  exact w_X6_cut hx hn hR hq σ x1 x2 h
theorem dX6_sumOf_0 : decode cX6_sumOf 0 = .ok (.iconst 0, 1) := by decide +kernel
theorem dX6_sumOf_1 : decode cX6_sumOf 1 = .ok (.istore_n 2, 1) := by decide +kernel
theorem dX6_sumOf_2 : decode cX6_sumOf 2 = .ok (.iconst 0, 1) := by decide +kernel
theorem dX6_sumOf_3 : decode cX6_sumOf 3 = .ok (.istore_n 3, 1) := by decide +kernel
theorem dX6_sumOf_4 : decode cX6_sumOf 4 = .ok (.iload_n 3, 1) := by decide +kernel
theorem dX6_sumOf_5 : decode cX6_sumOf 5 = .ok (.iconst 5, 1) := by decide +kernel
theorem dX6_sumOf_6 : decode cX6_sumOf 6 = .ok (.aload_n 0, 1) := by decide +kernel
theorem dX6_sumOf_7 : decode cX6_sumOf 7 = .ok (.getfield 108, 3) := by decide +kernel
theorem dX6_sumOf_10 : decode cX6_sumOf 10 = .ok (.imul, 1) := by decide +kernel
theorem dX6_sumOf_11 : decode cX6_sumOf 11 = .ok (.if_icmp .ge 44, 3) := by decide +kernel
theorem dX6_sumOf_14 : decode cX6_sumOf 14 = .ok (.iload_n 2, 1) := by decide +kernel
theorem dX6_sumOf_15 : decode cX6_sumOf 15 = .ok (.iload_n 1, 1) := by decide +kernel
theorem dX6_sumOf_16 : decode cX6_sumOf 16 = .ok (.ifCond .ne 21, 3) := by decide +kernel
theorem dX6_sumOf_19 : decode cX6_sumOf 19 = .ok (.aload_n 0, 1) := by decide +kernel
theorem dX6_sumOf_20 : decode cX6_sumOf 20 = .ok (.getfield 25, 3) := by decide +kernel
theorem dX6_sumOf_23 : decode cX6_sumOf 23 = .ok (.iload_n 3, 1) := by decide +kernel
theorem dX6_sumOf_24 : decode cX6_sumOf 24 = .ok (.iconst 1, 1) := by decide +kernel
theorem dX6_sumOf_25 : decode cX6_sumOf 25 = .ok (.iadd, 1) := by decide +kernel
theorem dX6_sumOf_26 : decode cX6_sumOf 26 = .ok (.iaload, 1) := by decide +kernel
theorem dX6_sumOf_27 : decode cX6_sumOf 27 = .ok (.aload_n 0, 1) := by decide +kernel
theorem dX6_sumOf_28 : decode cX6_sumOf 28 = .ok (.getfield 25, 3) := by decide +kernel
theorem dX6_sumOf_31 : decode cX6_sumOf 31 = .ok (.iload_n 3, 1) := by decide +kernel
theorem dX6_sumOf_32 : decode cX6_sumOf 32 = .ok (.iaload, 1) := by decide +kernel
theorem dX6_sumOf_33 : decode cX6_sumOf 33 = .ok (.isub, 1) := by decide +kernel
theorem dX6_sumOf_34 : decode cX6_sumOf 34 = .ok (.goto 13, 3) := by decide +kernel
theorem dX6_sumOf_37 : decode cX6_sumOf 37 = .ok (.aload_n 0, 1) := by decide +kernel
theorem dX6_sumOf_38 : decode cX6_sumOf 38 = .ok (.getfield 25, 3) := by decide +kernel
theorem dX6_sumOf_41 : decode cX6_sumOf 41 = .ok (.iload_n 3, 1) := by decide +kernel
theorem dX6_sumOf_42 : decode cX6_sumOf 42 = .ok (.iconst 1, 1) := by decide +kernel
theorem dX6_sumOf_43 : decode cX6_sumOf 43 = .ok (.iadd, 1) := by decide +kernel
theorem dX6_sumOf_44 : decode cX6_sumOf 44 = .ok (.iload_n 1, 1) := by decide +kernel
theorem dX6_sumOf_45 : decode cX6_sumOf 45 = .ok (.iadd, 1) := by decide +kernel
theorem dX6_sumOf_46 : decode cX6_sumOf 46 = .ok (.iaload, 1) := by decide +kernel
theorem dX6_sumOf_47 : decode cX6_sumOf 47 = .ok (.iadd, 1) := by decide +kernel
theorem dX6_sumOf_48 : decode cX6_sumOf 48 = .ok (.istore_n 2, 1) := by decide +kernel
theorem dX6_sumOf_49 : decode cX6_sumOf 49 = .ok (.iinc 3 5, 3) := by decide +kernel
theorem dX6_sumOf_52 : decode cX6_sumOf 52 = .ok (.goto (-48), 3) := by decide +kernel
theorem dX6_sumOf_55 : decode cX6_sumOf 55 = .ok (.iload_n 2, 1) := by decide +kernel
theorem dX6_sumOf_56 : decode cX6_sumOf 56 = .ok (.ireturn, 1) := by decide +kernel
abbrev rm_X6_sumOf : Room := { frames := 0, cells := 0, slots := 0, locals := 0 }
theorem w_X6_sumOf_b47 {C : zC} (hx : z_ok C cX6_sumOf RX6 1) (hn : z_nL C = 4) (hR : z_R C = rm_X6_sumOf) {rr : Int × zS} (hq : z_fin C (some .int) (z_QI (z_g C) rr.1 rr.2)) {K4 : zS → Int → Int → Int → Option (Int × zS)} (hK4 : ∀ (σ : zS) (x1 : Int) (x2 : Int) (x3 : Int) , K4 σ x1 x2 x3 = some rr → z_W C σ 4 [(0, .ref (z_ad (z_g C) 0)), (1, .int (zi x1)), (2, .int (zi x2)), (3, .int (zi x3))] []) (σ : zS) (x1 : Int) (x3 : Int) (s0 : Int) (s1 : Int) (h : f_X6_sumOf_b47 K4 σ x1 x3 s0 s1 = some rr) : z_W C σ 47 [(0, .ref (z_ad (z_g C) 0)), (1, .int (zi x1)), (3, .int (zi x3))] [.int (zi s1), .int (zi s0)] := by
  unfold f_X6_sumOf_b47 at h
  refine z_iadd hx dX6_sumOf_47 ?_
  refine z_istore_n hx hn (lv' := [(2, .int (zi (s0 + s1))), (0, .ref (z_ad (z_g C) 0)), (1, .int (zi x1)), (3, .int (zi x3))]) dX6_sumOf_48 (by decide) rfl ?_
  refine z_iinc hx hn 3 (lv' := [(3, .int (zi (x3 + 5))), (2, .int (zi (s0 + s1))), (0, .ref (z_ad (z_g C) 0)), (1, .int (zi x1))]) dX6_sumOf_49 rfl (by decide) rfl ?_
  refine z_goto hx (tgt := 4) dX6_sumOf_52 (by decide) ?_
  refine z_sub [2, 3, 1, 0] rfl ?_
  exact hK4 σ x1 (s0 + s1) (x3 + 5) h

theorem w_X6_sumOf_b4 {C : zC} (hx : z_ok C cX6_sumOf RX6 1) (hn : z_nL C = 4) (hR : z_R C = rm_X6_sumOf) {rr : Int × zS} (hq : z_fin C (some .int) (z_QI (z_g C) rr.1 rr.2)) {K4 : zS → Int → Int → Int → Option (Int × zS)} (hK4 : ∀ (σ : zS) (x1 : Int) (x2 : Int) (x3 : Int) , K4 σ x1 x2 x3 = some rr → z_W C σ 4 [(0, .ref (z_ad (z_g C) 0)), (1, .int (zi x1)), (2, .int (zi x2)), (3, .int (zi x3))] []) (σ : zS) (x1 : Int) (x2 : Int) (x3 : Int) (h : f_X6_sumOf_b4 K4 σ x1 x2 x3 = some rr) : z_W C σ 4 [(0, .ref (z_ad (z_g C) 0)), (1, .int (zi x1)), (2, .int (zi x2)), (3, .int (zi x3))] [] := by
  unfold f_X6_sumOf_b4 at h
  refine z_iload_n hx 3 dX6_sumOf_4 rfl ?_
  refine z_iconst hx (n := 5) dX6_sumOf_5 ?_
  refine z_aload_n hx 0 dX6_sumOf_6 rfl ?_
  refine gf_X6_cutMany hx wf_X6_108 dX6_sumOf_7 ?_
  refine z_imul hx dX6_sumOf_10 ?_
  refine z_icmp_ge hx (tgt := 55) dX6_sumOf_11 (by decide) h (fun h => h) (fun hc h => ?_) (fun hc h => ?_)
  · refine z_iload_n hx 2 dX6_sumOf_55 rfl ?_
    cases h
    exact z_iret hx hq dX6_sumOf_56
  · refine z_iload_n hx 2 dX6_sumOf_14 rfl ?_
    refine z_iload_n hx 1 dX6_sumOf_15 rfl ?_
    refine z_if_ne hx (tgt := 37) dX6_sumOf_16 (by decide) h (fun h => h) (fun hc h => ?_) (fun hc h => ?_)
    · refine z_aload_n hx 0 dX6_sumOf_37 rfl ?_
      refine gf_X6_cut hx wf_X6_25 dX6_sumOf_38 ?_
      refine z_iload_n hx 3 dX6_sumOf_41 rfl ?_
      refine z_iconst hx (n := 1) dX6_sumOf_42 ?_
      refine z_iadd hx dX6_sumOf_43 ?_
      refine z_iload_n hx 1 dX6_sumOf_44 rfl ?_
      refine z_iadd hx dX6_sumOf_45 ?_
      refine z_iald hx (n := 100) (z_lt1 (z_ok_sd hx) (by decide)) (z_kc6 (z_ok_sd hx) _) rfl (by decide) dX6_sumOf_46 h (fun h => ?_)
      refine z_sub [0, 1, 3] rfl ?_
      exact w_X6_sumOf_b47 hx hn hR hq hK4 σ x1 x3 x2 (σ 6 ((x3 + 1) + x1)) h
    · refine z_aload_n hx 0 dX6_sumOf_19 rfl ?_
      refine gf_X6_cut hx wf_X6_25 dX6_sumOf_20 ?_
      refine z_iload_n hx 3 dX6_sumOf_23 rfl ?_
      refine z_iconst hx (n := 1) dX6_sumOf_24 ?_
      refine z_iadd hx dX6_sumOf_25 ?_
      refine z_iald hx (n := 100) (z_lt1 (z_ok_sd hx) (by decide)) (z_kc6 (z_ok_sd hx) _) rfl (by decide) dX6_sumOf_26 h (fun h => ?_)
      refine z_aload_n hx 0 dX6_sumOf_27 rfl ?_
      refine gf_X6_cut hx wf_X6_25 dX6_sumOf_28 ?_
      refine z_iload_n hx 3 dX6_sumOf_31 rfl ?_
      refine z_iald hx (n := 100) (z_lt1 (z_ok_sd hx) (by decide)) (z_kc6 (z_ok_sd hx) _) rfl (by decide) dX6_sumOf_32 h (fun h => ?_)
      refine z_isub hx dX6_sumOf_33 ?_
      refine z_goto hx (tgt := 47) dX6_sumOf_34 (by decide) ?_
      refine z_sub [0, 1, 3] rfl ?_
      exact w_X6_sumOf_b47 hx hn hR hq hK4 σ x1 x3 x2 ((σ 6 (x3 + 1)) - (σ 6 x3)) h

theorem w_X6_sumOf_l4 {C : zC} (hx : z_ok C cX6_sumOf RX6 1) (hn : z_nL C = 4) (hR : z_R C = rm_X6_sumOf) {rr : Int × zS} (hq : z_fin C (some .int) (z_QI (z_g C) rr.1 rr.2)) : ∀ (n : Nat) (σ : zS) (x1 : Int) (x2 : Int) (x3 : Int) (_ : f_X6_sumOf_l4 n σ x1 x2 x3 = some rr), z_W C σ 4 [(0, .ref (z_ad (z_g C) 0)), (1, .int (zi x1)), (2, .int (zi x2)), (3, .int (zi x3))] [] := by
  intro n
  induction n with
  | zero => intro σ x1 x2 x3 h; cases h
  | succ n ih =>
    intro σ x1 x2 x3 h
    exact w_X6_sumOf_b4 hx hn hR hq ih σ x1 x2 x3 h
theorem w_X6_sumOf {C : zC} (hx : z_ok C cX6_sumOf RX6 1) (hn : z_nL C = 4) (hR : z_R C = rm_X6_sumOf) {rr : Int × zS} (hq : z_fin C (some .int) (z_QI (z_g C) rr.1 rr.2)) (σ : zS) (x1 : Int) (h : f_X6_sumOf σ x1 = some rr) : z_W C σ 0 [(0, .ref (z_ad (z_g C) 0)), (1, .int (zi x1))] [] := by
  unfold f_X6_sumOf at h
  refine z_iconst hx (n := 0) dX6_sumOf_0 ?_
  refine z_istore_n hx hn (lv' := [(2, .int (zi 0)), (0, .ref (z_ad (z_g C) 0)), (1, .int (zi x1))]) dX6_sumOf_1 (by decide) rfl ?_
  refine z_iconst hx (n := 0) dX6_sumOf_2 ?_
  refine z_istore_n hx hn (lv' := [(3, .int (zi 0)), (2, .int (zi 0)), (0, .ref (z_ad (z_g C) 0)), (1, .int (zi x1))]) dX6_sumOf_3 (by decide) rfl ?_
  refine z_sub [2, 3, 1, 0] rfl ?_
  exact w_X6_sumOf_l4 hx hn hR hq z_fuel σ x1 0 0 h

theorem met_X6_sumOf (l : Launch) (g : zG) (hg : g.1 = 1) {σ : zS} {x1 : Int} {rr : Int × zS} (h : f_X6_sumOf σ x1 = some rr) : z_Met l yX6_sumOf cX6_sumOf 4 (some .int) rm_X6_sumOf g [.ref (z_ad (g) 0), .int (zi x1)] σ (z_QI g rr.1 rr.2) := by
  refine z_enter (own := RX6) (sd := 1) (lv0 := [(0, .ref (z_ad (g) 0)), (1, .int (zi x1))]) (by decide) rfl (Nat.le_of_ble_eq_true rfl) hg rfl (fun C hx hl hgC hR hn hq => ?_)
  subst hgC
  refine z_sub [0, 1] rfl ?_
  exact w_X6_sumOf hx hn hR hq σ x1 h
theorem dX6_sum_0 : decode cX6_sum 0 = .ok (.aload_n 0, 1) := by decide +kernel
theorem dX6_sum_1 : decode cX6_sum 1 = .ok (.invokevirtual 126, 3) := by decide +kernel
theorem dX6_sum_4 : decode cX6_sum 4 = .ok (.iload_n 1, 1) := by decide +kernel
theorem dX6_sum_5 : decode cX6_sum 5 = .ok (.iconst 0, 1) := by decide +kernel
theorem dX6_sum_6 : decode cX6_sum 6 = .ok (.iconst 2, 1) := by decide +kernel
theorem dX6_sum_7 : decode cX6_sum 7 = .ok (.invokestatic 41, 3) := by decide +kernel
theorem dX6_sum_10 : decode cX6_sum 10 = .ok (.ifCond .eq 11, 3) := by decide +kernel
theorem dX6_sum_13 : decode cX6_sum 13 = .ok (.aload_n 0, 1) := by decide +kernel
theorem dX6_sum_14 : decode cX6_sum 14 = .ok (.iload_n 1, 1) := by decide +kernel
theorem dX6_sum_15 : decode cX6_sum 15 = .ok (.invokevirtual 132, 3) := by decide +kernel
theorem dX6_sum_18 : decode cX6_sum 18 = .ok (.goto 4, 3) := by decide +kernel
theorem dX6_sum_21 : decode cX6_sum 21 = .ok (.iconst (-1), 1) := by decide +kernel
theorem dX6_sum_22 : decode cX6_sum 22 = .ok (.ireturn, 1) := by decide +kernel
abbrev rm_X6_sum : Room := { frames := 6, cells := 0, slots := 0, locals := 139 }
theorem w_X6_sum_b22 {C : zC} (hx : z_ok C cX6_sum RX6 1) (hn : z_nL C = 2) (hR : z_R C = rm_X6_sum) {rr : Int × zS} (hq : z_fin C (some .int) (z_QI (z_g C) rr.1 rr.2)) (σ : zS) (s0 : Int) (h : f_X6_sum_b22 σ s0 = some rr) : z_W C σ 22 [] [.int (zi s0)] := by
  unfold f_X6_sum_b22 at h
  cases h
  exact z_iret hx hq dX6_sum_22

theorem w_X6_sum {C : zC} (hx : z_ok C cX6_sum RX6 1) (hn : z_nL C = 2) (hR : z_R C = rm_X6_sum) {rr : Int × zS} (hq : z_fin C (some .int) (z_QI (z_g C) rr.1 rr.2)) (σ : zS) (x1 : Int) (h : f_X6_sum σ x1 = some rr) : z_W C σ 0 [(0, .ref (z_ad (z_g C) 0)), (1, .int (zi x1))] [] := by
  unfold f_X6_sum at h
  refine z_aload_n hx 0 dX6_sum_0 rfl ?_
  obtain ⟨⟨⟩, σ1, h1, h⟩ := z_bind_some h
  refine z_callv hx (As := []) (k := 0) (met_X6_finds (z_l C) (z_g C) (z_ok_sd hx) h1) (z_lt1 (z_ok_sd hx) (by decide)) (z_kc0 (z_ok_sd hx) _) rfl rfl cv_X6_126 (z_room hR ⟨Nat.le_of_ble_eq_true rfl, Nat.le_of_ble_eq_true rfl⟩) ⟨rfl, rfl⟩ rfl rfl (Nat.le_of_ble_eq_true rfl) dX6_sum_1 ?_
  refine z_iload_n hx 1 dX6_sum_4 rfl ?_
  refine z_iconst hx (n := 0) dX6_sum_5 ?_
  refine z_iconst hx (n := 2) dX6_sum_6 ?_
  obtain ⟨r3, σ2, h7, h⟩ := z_bind_some h
  refine z_calls hx (As := [.int (zi x1), .int (zi 0), .int (zi 2)]) (met_X6_in (z_l C) (z_g C) (z_ok_sd hx) h7) cv_X6_41 (z_room hR ⟨Nat.le_of_ble_eq_true rfl, Nat.le_of_ble_eq_true rfl⟩) ⟨rfl, rfl⟩ rfl rfl (Nat.le_of_ble_eq_true rfl) dX6_sum_7 ?_
  refine z_if_eq hx (tgt := 21) dX6_sum_10 (by decide) h (fun h => h) (fun hc h => ?_) (fun hc h => ?_)
  · refine z_iconst hx (n := (-1)) dX6_sum_21 ?_
    refine z_sub [] rfl ?_
    exact w_X6_sum_b22 hx hn hR hq σ2 (-1) h
  · refine z_aload_n hx 0 dX6_sum_13 rfl ?_
    refine z_iload_n hx 1 dX6_sum_14 rfl ?_
    obtain ⟨r5, σ4, h15, h⟩ := z_bind_some h
    refine z_calli hx (As := [.int (zi x1)]) (k := 0) (met_X6_sumOf (z_l C) (z_g C) (z_ok_sd hx) h15) (z_lt1 (z_ok_sd hx) (by decide)) (z_kc0 (z_ok_sd hx) _) rfl rfl cv_X6_132 (z_room hR ⟨Nat.le_of_ble_eq_true rfl, Nat.le_of_ble_eq_true rfl⟩) ⟨rfl, rfl⟩ rfl rfl (Nat.le_of_ble_eq_true rfl) dX6_sum_15 ?_
    refine z_goto hx (tgt := 22) dX6_sum_18 (by decide) ?_
    refine z_sub [] rfl ?_
    exact w_X6_sum_b22 hx hn hR hq σ4 r5 h

theorem met_X6_sum (l : Launch) (g : zG) (hg : g.1 = 1) {σ : zS} {x1 : Int} {rr : Int × zS} (h : f_X6_sum σ x1 = some rr) : z_Met l yX6_sum cX6_sum 2 (some .int) rm_X6_sum g [.ref (z_ad (g) 0), .int (zi x1)] σ (z_QI g rr.1 rr.2) := by
  refine z_enter (own := RX6) (sd := 1) (lv0 := [(0, .ref (z_ad (g) 0)), (1, .int (zi x1))]) (by decide) rfl (Nat.le_of_ble_eq_true rfl) hg rfl (fun C hx hl hgC hR hn hq => ?_)
  subst hgC
  refine z_sub [0, 1] rfl ?_
  exact w_X6_sum hx hn hR hq σ x1 h
theorem dX6_bestWindow_0 : decode cX6_bestWindow 0 = .ok (.aload_n 0, 1) := by decide +kernel
theorem dX6_bestWindow_1 : decode cX6_bestWindow 1 = .ok (.getfield 7, 3) := by decide +kernel
theorem dX6_bestWindow_4 : decode cX6_bestWindow 4 = .ok (.iconst 2, 1) := by decide +kernel
theorem dX6_bestWindow_5 : decode cX6_bestWindow 5 = .ok (.iaload, 1) := by decide +kernel
theorem dX6_bestWindow_6 : decode cX6_bestWindow 6 = .ok (.istore_n 1, 1) := by decide +kernel
theorem dX6_bestWindow_7 : decode cX6_bestWindow 7 = .ok (.iconst 0, 1) := by decide +kernel
theorem dX6_bestWindow_8 : decode cX6_bestWindow 8 = .ok (.istore_n 2, 1) := by decide +kernel
theorem dX6_bestWindow_9 : decode cX6_bestWindow 9 = .ok (.bipush 99, 2) := by decide +kernel
theorem dX6_bestWindow_11 : decode cX6_bestWindow 11 = .ok (.istore_n 3, 1) := by decide +kernel
theorem dX6_bestWindow_12 : decode cX6_bestWindow 12 = .ok (.iconst 0, 1) := by decide +kernel
theorem dX6_bestWindow_13 : decode cX6_bestWindow 13 = .ok (.istore 4, 2) := by decide +kernel
theorem dX6_bestWindow_15 : decode cX6_bestWindow 15 = .ok (.iload 4, 2) := by decide +kernel
theorem dX6_bestWindow_17 : decode cX6_bestWindow 17 = .ok (.bipush 20, 2) := by decide +kernel
theorem dX6_bestWindow_19 : decode cX6_bestWindow 19 = .ok (.if_icmp .gt 56, 3) := by decide +kernel
theorem dX6_bestWindow_22 : decode cX6_bestWindow 22 = .ok (.aload_n 0, 1) := by decide +kernel
theorem dX6_bestWindow_23 : decode cX6_bestWindow 23 = .ok (.getfield 7, 3) := by decide +kernel
theorem dX6_bestWindow_26 : decode cX6_bestWindow 26 = .ok (.iconst 2, 1) := by decide +kernel
theorem dX6_bestWindow_27 : decode cX6_bestWindow 27 = .ok (.iload 4, 2) := by decide +kernel
theorem dX6_bestWindow_29 : decode cX6_bestWindow 29 = .ok (.iastore, 1) := by decide +kernel
theorem dX6_bestWindow_30 : decode cX6_bestWindow 30 = .ok (.aload_n 0, 1) := by decide +kernel
theorem dX6_bestWindow_31 : decode cX6_bestWindow 31 = .ok (.invokevirtual 126, 3) := by decide +kernel
theorem dX6_bestWindow_34 : decode cX6_bestWindow 34 = .ok (.aload_n 0, 1) := by decide +kernel
theorem dX6_bestWindow_35 : decode cX6_bestWindow 35 = .ok (.iconst 2, 1) := by decide +kernel
theorem dX6_bestWindow_36 : decode cX6_bestWindow 36 = .ok (.invokevirtual 132, 3) := by decide +kernel
theorem dX6_bestWindow_39 : decode cX6_bestWindow 39 = .ok (.iload_n 3, 1) := by decide +kernel
theorem dX6_bestWindow_40 : decode cX6_bestWindow 40 = .ok (.if_icmp .ge 8, 3) := by decide +kernel
theorem dX6_bestWindow_43 : decode cX6_bestWindow 43 = .ok (.iload 4, 2) := by decide +kernel
theorem dX6_bestWindow_45 : decode cX6_bestWindow 45 = .ok (.goto 4, 3) := by decide +kernel
theorem dX6_bestWindow_48 : decode cX6_bestWindow 48 = .ok (.iload_n 2, 1) := by decide +kernel
theorem dX6_bestWindow_49 : decode cX6_bestWindow 49 = .ok (.istore_n 2, 1) := by decide +kernel
theorem dX6_bestWindow_50 : decode cX6_bestWindow 50 = .ok (.aload_n 0, 1) := by decide +kernel
theorem dX6_bestWindow_51 : decode cX6_bestWindow 51 = .ok (.iconst 2, 1) := by decide +kernel
theorem dX6_bestWindow_52 : decode cX6_bestWindow 52 = .ok (.invokevirtual 132, 3) := by decide +kernel
theorem dX6_bestWindow_55 : decode cX6_bestWindow 55 = .ok (.iload_n 3, 1) := by decide +kernel
theorem dX6_bestWindow_56 : decode cX6_bestWindow 56 = .ok (.if_icmp .ge 11, 3) := by decide +kernel
theorem dX6_bestWindow_59 : decode cX6_bestWindow 59 = .ok (.aload_n 0, 1) := by decide +kernel
theorem dX6_bestWindow_60 : decode cX6_bestWindow 60 = .ok (.iconst 2, 1) := by decide +kernel
theorem dX6_bestWindow_61 : decode cX6_bestWindow 61 = .ok (.invokevirtual 132, 3) := by decide +kernel
theorem dX6_bestWindow_64 : decode cX6_bestWindow 64 = .ok (.goto 4, 3) := by decide +kernel
theorem dX6_bestWindow_67 : decode cX6_bestWindow 67 = .ok (.iload_n 3, 1) := by decide +kernel
theorem dX6_bestWindow_68 : decode cX6_bestWindow 68 = .ok (.istore_n 3, 1) := by decide +kernel
theorem dX6_bestWindow_69 : decode cX6_bestWindow 69 = .ok (.iinc 4 1, 3) := by decide +kernel
theorem dX6_bestWindow_72 : decode cX6_bestWindow 72 = .ok (.goto (-57), 3) := by decide +kernel
theorem dX6_bestWindow_75 : decode cX6_bestWindow 75 = .ok (.aload_n 0, 1) := by decide +kernel
theorem dX6_bestWindow_76 : decode cX6_bestWindow 76 = .ok (.getfield 7, 3) := by decide +kernel
theorem dX6_bestWindow_79 : decode cX6_bestWindow 79 = .ok (.iconst 2, 1) := by decide +kernel
theorem dX6_bestWindow_80 : decode cX6_bestWindow 80 = .ok (.iload_n 1, 1) := by decide +kernel
theorem dX6_bestWindow_81 : decode cX6_bestWindow 81 = .ok (.iastore, 1) := by decide +kernel
theorem dX6_bestWindow_82 : decode cX6_bestWindow 82 = .ok (.iload_n 2, 1) := by decide +kernel
theorem dX6_bestWindow_83 : decode cX6_bestWindow 83 = .ok (.ireturn, 1) := by decide +kernel
abbrev rm_X6_bestWindow : Room := { frames := 6, cells := 0, slots := 0, locals := 139 }
theorem w_X6_bestWindow_b68 {C : zC} (hx : z_ok C cX6_bestWindow RX6 1) (hn : z_nL C = 5) (hR : z_R C = rm_X6_bestWindow) {rr : Int × zS} (hq : z_fin C (some .int) (z_QI (z_g C) rr.1 rr.2)) {K15 : zS → Int → Int → Int → Int → Option (Int × zS)} (hK15 : ∀ (σ : zS) (x1 : Int) (x2 : Int) (x3 : Int) (x4 : Int) , K15 σ x1 x2 x3 x4 = some rr → z_W C σ 15 [(0, .ref (z_ad (z_g C) 0)), (1, .int (zi x1)), (2, .int (zi x2)), (3, .int (zi x3)), (4, .int (zi x4))] []) (σ : zS) (x1 : Int) (x2 : Int) (x4 : Int) (s0 : Int) (h : f_X6_bestWindow_b68 K15 σ x1 x2 x4 s0 = some rr) : z_W C σ 68 [(0, .ref (z_ad (z_g C) 0)), (1, .int (zi x1)), (2, .int (zi x2)), (4, .int (zi x4))] [.int (zi s0)] := by
  unfold f_X6_bestWindow_b68 at h
  refine z_istore_n hx hn (lv' := [(3, .int (zi s0)), (0, .ref (z_ad (z_g C) 0)), (1, .int (zi x1)), (2, .int (zi x2)), (4, .int (zi x4))]) dX6_bestWindow_68 (by decide) rfl ?_
  refine z_iinc hx hn 4 (lv' := [(4, .int (zi (x4 + 1))), (3, .int (zi s0)), (0, .ref (z_ad (z_g C) 0)), (1, .int (zi x1)), (2, .int (zi x2))]) dX6_bestWindow_69 rfl (by decide) rfl ?_
  refine z_goto hx (tgt := 15) dX6_bestWindow_72 (by decide) ?_
  refine z_sub [2, 3, 4, 1, 0] rfl ?_
  exact hK15 σ x1 x2 s0 (x4 + 1) h

theorem w_X6_bestWindow_b49 {C : zC} (hx : z_ok C cX6_bestWindow RX6 1) (hn : z_nL C = 5) (hR : z_R C = rm_X6_bestWindow) {rr : Int × zS} (hq : z_fin C (some .int) (z_QI (z_g C) rr.1 rr.2)) {K15 : zS → Int → Int → Int → Int → Option (Int × zS)} (hK15 : ∀ (σ : zS) (x1 : Int) (x2 : Int) (x3 : Int) (x4 : Int) , K15 σ x1 x2 x3 x4 = some rr → z_W C σ 15 [(0, .ref (z_ad (z_g C) 0)), (1, .int (zi x1)), (2, .int (zi x2)), (3, .int (zi x3)), (4, .int (zi x4))] []) (σ : zS) (x1 : Int) (x3 : Int) (x4 : Int) (s0 : Int) (h : f_X6_bestWindow_b49 K15 σ x1 x3 x4 s0 = some rr) : z_W C σ 49 [(0, .ref (z_ad (z_g C) 0)), (1, .int (zi x1)), (3, .int (zi x3)), (4, .int (zi x4))] [.int (zi s0)] := by
  unfold f_X6_bestWindow_b49 at h
  refine z_istore_n hx hn (lv' := [(2, .int (zi s0)), (0, .ref (z_ad (z_g C) 0)), (1, .int (zi x1)), (3, .int (zi x3)), (4, .int (zi x4))]) dX6_bestWindow_49 (by decide) rfl ?_
  refine z_aload_n hx 1 dX6_bestWindow_50 rfl ?_
  refine z_iconst hx (n := 2) dX6_bestWindow_51 ?_
  obtain ⟨r2, σ1, h52, h⟩ := z_bind_some h
  refine z_calli hx (As := [.int (zi 2)]) (k := 0) (met_X6_sumOf (z_l C) (z_g C) (z_ok_sd hx) h52) (z_lt1 (z_ok_sd hx) (by decide)) (z_kc0 (z_ok_sd hx) _) rfl rfl cv_X6_132 (z_room hR ⟨Nat.le_of_ble_eq_true rfl, Nat.le_of_ble_eq_true rfl⟩) ⟨rfl, rfl⟩ rfl rfl (Nat.le_of_ble_eq_true rfl) dX6_bestWindow_52 ?_
  refine z_iload_n hx 3 dX6_bestWindow_55 rfl ?_
  refine z_icmp_ge hx (tgt := 67) dX6_bestWindow_56 (by decide) h (fun h => h) (fun hc h => ?_) (fun hc h => ?_)
  · refine z_iload_n hx 3 dX6_bestWindow_67 rfl ?_
    refine z_sub [1, 2, 0, 4] rfl ?_
    exact w_X6_bestWindow_b68 hx hn hR hq hK15 σ1 x1 s0 x4 x3 h
  · refine z_aload_n hx 1 dX6_bestWindow_59 rfl ?_
    refine z_iconst hx (n := 2) dX6_bestWindow_60 ?_
    obtain ⟨r4, σ3, h61, h⟩ := z_bind_some h
    refine z_calli hx (As := [.int (zi 2)]) (k := 0) (met_X6_sumOf (z_l C) (z_g C) (z_ok_sd hx) h61) (z_lt1 (z_ok_sd hx) (by decide)) (z_kc0 (z_ok_sd hx) _) rfl rfl cv_X6_132 (z_room hR ⟨Nat.le_of_ble_eq_true rfl, Nat.le_of_ble_eq_true rfl⟩) ⟨rfl, rfl⟩ rfl rfl (Nat.le_of_ble_eq_true rfl) dX6_bestWindow_61 ?_
    refine z_goto hx (tgt := 68) dX6_bestWindow_64 (by decide) ?_
    refine z_sub [1, 2, 0, 4] rfl ?_
    exact w_X6_bestWindow_b68 hx hn hR hq hK15 σ3 x1 s0 x4 r4 h

theorem w_X6_bestWindow_b15 {C : zC} (hx : z_ok C cX6_bestWindow RX6 1) (hn : z_nL C = 5) (hR : z_R C = rm_X6_bestWindow) {rr : Int × zS} (hq : z_fin C (some .int) (z_QI (z_g C) rr.1 rr.2)) {K15 : zS → Int → Int → Int → Int → Option (Int × zS)} (hK15 : ∀ (σ : zS) (x1 : Int) (x2 : Int) (x3 : Int) (x4 : Int) , K15 σ x1 x2 x3 x4 = some rr → z_W C σ 15 [(0, .ref (z_ad (z_g C) 0)), (1, .int (zi x1)), (2, .int (zi x2)), (3, .int (zi x3)), (4, .int (zi x4))] []) (σ : zS) (x1 : Int) (x2 : Int) (x3 : Int) (x4 : Int) (h : f_X6_bestWindow_b15 K15 σ x1 x2 x3 x4 = some rr) : z_W C σ 15 [(0, .ref (z_ad (z_g C) 0)), (1, .int (zi x1)), (2, .int (zi x2)), (3, .int (zi x3)), (4, .int (zi x4))] [] := by
  unfold f_X6_bestWindow_b15 at h
  refine z_iload hx 4 dX6_bestWindow_15 rfl ?_
  refine z_bipush hx (n := 20) dX6_bestWindow_17 rfl ?_
  refine z_icmp_gt hx (tgt := 75) dX6_bestWindow_19 (by decide) h (fun h => ⟨h, by decide⟩) (fun hc h => ?_) (fun hc h => ?_)
  · refine z_aload_n hx 0 dX6_bestWindow_75 rfl ?_
    refine gf_X6_v hx wf_X6_7 dX6_bestWindow_76 ?_
    refine z_iconst hx (n := 2) dX6_bestWindow_79 ?_
    refine z_iload_n hx 1 dX6_bestWindow_80 rfl ?_
    refine z_iast hx (n := 320) (z_lt1 (z_ok_sd hx) (by decide)) (z_kc1 (z_ok_sd hx)) rfl (by decide) dX6_bestWindow_81 h (fun σ1 h => ?_)
    refine z_iload_n hx 2 dX6_bestWindow_82 rfl ?_
    cases h
    exact z_iret hx hq dX6_bestWindow_83
  · refine z_aload_n hx 0 dX6_bestWindow_22 rfl ?_
    refine gf_X6_v hx wf_X6_7 dX6_bestWindow_23 ?_
    refine z_iconst hx (n := 2) dX6_bestWindow_26 ?_
    refine z_iload hx 4 dX6_bestWindow_27 rfl ?_
    refine z_iast hx (n := 320) (z_lt1 (z_ok_sd hx) (by decide)) (z_kc1 (z_ok_sd hx)) rfl (by decide) dX6_bestWindow_29 h (fun σ2 h => ?_)
    refine z_aload_n hx 0 dX6_bestWindow_30 rfl ?_
    obtain ⟨⟨⟩, σ3, h31, h⟩ := z_bind_some h
    refine z_callv hx (As := []) (k := 0) (met_X6_finds (z_l C) (z_g C) (z_ok_sd hx) h31) (z_lt1 (z_ok_sd hx) (by decide)) (z_kc0 (z_ok_sd hx) _) rfl rfl cv_X6_126 (z_room hR ⟨Nat.le_of_ble_eq_true rfl, Nat.le_of_ble_eq_true rfl⟩) ⟨rfl, rfl⟩ rfl rfl (Nat.le_of_ble_eq_true rfl) dX6_bestWindow_31 ?_
    refine z_aload_n hx 0 dX6_bestWindow_34 rfl ?_
    refine z_iconst hx (n := 2) dX6_bestWindow_35 ?_
    obtain ⟨r5, σ4, h36, h⟩ := z_bind_some h
    refine z_calli hx (As := [.int (zi 2)]) (k := 0) (met_X6_sumOf (z_l C) (z_g C) (z_ok_sd hx) h36) (z_lt1 (z_ok_sd hx) (by decide)) (z_kc0 (z_ok_sd hx) _) rfl rfl cv_X6_132 (z_room hR ⟨Nat.le_of_ble_eq_true rfl, Nat.le_of_ble_eq_true rfl⟩) ⟨rfl, rfl⟩ rfl rfl (Nat.le_of_ble_eq_true rfl) dX6_bestWindow_36 ?_
    refine z_iload_n hx 3 dX6_bestWindow_39 rfl ?_
    refine z_icmp_ge hx (tgt := 48) dX6_bestWindow_40 (by decide) h (fun h => h) (fun hc h => ?_) (fun hc h => ?_)
    · refine z_iload_n hx 2 dX6_bestWindow_48 rfl ?_
      refine z_sub [0, 1, 3, 4] rfl ?_
      exact w_X6_bestWindow_b49 hx hn hR hq hK15 σ4 x1 x3 x4 x2 h
    · refine z_iload hx 4 dX6_bestWindow_43 rfl ?_
      refine z_goto hx (tgt := 49) dX6_bestWindow_45 (by decide) ?_
      refine z_sub [0, 1, 3, 4] rfl ?_
      exact w_X6_bestWindow_b49 hx hn hR hq hK15 σ4 x1 x3 x4 x4 h

theorem w_X6_bestWindow_l15 {C : zC} (hx : z_ok C cX6_bestWindow RX6 1) (hn : z_nL C = 5) (hR : z_R C = rm_X6_bestWindow) {rr : Int × zS} (hq : z_fin C (some .int) (z_QI (z_g C) rr.1 rr.2)) : ∀ (n : Nat) (σ : zS) (x1 : Int) (x2 : Int) (x3 : Int) (x4 : Int) (_ : f_X6_bestWindow_l15 n σ x1 x2 x3 x4 = some rr), z_W C σ 15 [(0, .ref (z_ad (z_g C) 0)), (1, .int (zi x1)), (2, .int (zi x2)), (3, .int (zi x3)), (4, .int (zi x4))] [] := by
  intro n
  induction n with
  | zero => intro σ x1 x2 x3 x4 h; cases h
  | succ n ih =>
    intro σ x1 x2 x3 x4 h
    exact w_X6_bestWindow_b15 hx hn hR hq ih σ x1 x2 x3 x4 h
theorem w_X6_bestWindow {C : zC} (hx : z_ok C cX6_bestWindow RX6 1) (hn : z_nL C = 5) (hR : z_R C = rm_X6_bestWindow) {rr : Int × zS} (hq : z_fin C (some .int) (z_QI (z_g C) rr.1 rr.2)) (σ : zS) (h : f_X6_bestWindow σ = some rr) : z_W C σ 0 [(0, .ref (z_ad (z_g C) 0))] [] := by
  unfold f_X6_bestWindow at h
  refine z_aload_n hx 0 dX6_bestWindow_0 rfl ?_
  refine gf_X6_v hx wf_X6_7 dX6_bestWindow_1 ?_
  refine z_iconst hx (n := 2) dX6_bestWindow_4 ?_
  refine z_iald hx (n := 320) (z_lt1 (z_ok_sd hx) (by decide)) (z_kc1 (z_ok_sd hx) _) rfl (by decide) dX6_bestWindow_5 h (fun h => ?_)
  refine z_istore_n hx hn (lv' := [(1, .int (zi (σ 1 2))), (0, .ref (z_ad (z_g C) 0))]) dX6_bestWindow_6 (by decide) rfl ?_
  refine z_iconst hx (n := 0) dX6_bestWindow_7 ?_
  refine z_istore_n hx hn (lv' := [(2, .int (zi 0)), (1, .int (zi (σ 1 2))), (0, .ref (z_ad (z_g C) 0))]) dX6_bestWindow_8 (by decide) rfl ?_
  refine z_bipush hx (n := 99) dX6_bestWindow_9 rfl ?_
  refine z_istore_n hx hn (lv' := [(3, .int (zi 99)), (2, .int (zi 0)), (1, .int (zi (σ 1 2))), (0, .ref (z_ad (z_g C) 0))]) dX6_bestWindow_11 (by decide) rfl ?_
  refine z_iconst hx (n := 0) dX6_bestWindow_12 ?_
  refine z_istore hx hn (lv' := [(4, .int (zi 0)), (3, .int (zi 99)), (2, .int (zi 0)), (1, .int (zi (σ 1 2))), (0, .ref (z_ad (z_g C) 0))]) dX6_bestWindow_13 (by decide) rfl ?_
  refine z_sub [4, 3, 2, 1, 0] rfl ?_
  exact w_X6_bestWindow_l15 hx hn hR hq z_fuel σ (σ 1 2) 0 99 0 h

theorem met_X6_bestWindow (l : Launch) (g : zG) (hg : g.1 = 1) {σ : zS} {rr : Int × zS} (h : f_X6_bestWindow σ = some rr) : z_Met l yX6_bestWindow cX6_bestWindow 5 (some .int) rm_X6_bestWindow g [.ref (z_ad (g) 0)] σ (z_QI g rr.1 rr.2) := by
  refine z_enter (own := RX6) (sd := 1) (lv0 := [(0, .ref (z_ad (g) 0))]) (by decide) rfl (Nat.le_of_ble_eq_true rfl) hg rfl (fun C hx hl hgC hR hn hq => ?_)
  subst hgC
  refine z_sub [0] rfl ?_
  exact w_X6_bestWindow hx hn hR hq σ h
theorem dX6_greatestDoubt_0 : decode cX6_greatestDoubt 0 = .ok (.iload_n 1, 1) := by decide +kernel
theorem dX6_greatestDoubt_1 : decode cX6_greatestDoubt 1 = .ok (.ifCond .ge 5, 3) := by decide +kernel
theorem dX6_greatestDoubt_4 : decode cX6_greatestDoubt 4 = .ok (.iconst (-1), 1) := by decide +kernel
theorem dX6_greatestDoubt_5 : decode cX6_greatestDoubt 5 = .ok (.ireturn, 1) := by decide +kernel
theorem dX6_greatestDoubt_6 : decode cX6_greatestDoubt 6 = .ok (.aload_n 0, 1) := by decide +kernel
theorem dX6_greatestDoubt_7 : decode cX6_greatestDoubt 7 = .ok (.getfield 7, 3) := by decide +kernel
theorem dX6_greatestDoubt_10 : decode cX6_greatestDoubt 10 = .ok (.iconst 0, 1) := by decide +kernel
theorem dX6_greatestDoubt_11 : decode cX6_greatestDoubt 11 = .ok (.iaload, 1) := by decide +kernel
theorem dX6_greatestDoubt_12 : decode cX6_greatestDoubt 12 = .ok (.istore_n 2, 1) := by decide +kernel
theorem dX6_greatestDoubt_13 : decode cX6_greatestDoubt 13 = .ok (.bipush (-9), 2) := by decide +kernel
theorem dX6_greatestDoubt_15 : decode cX6_greatestDoubt 15 = .ok (.istore_n 3, 1) := by decide +kernel
theorem dX6_greatestDoubt_16 : decode cX6_greatestDoubt 16 = .ok (.iconst 0, 1) := by decide +kernel
theorem dX6_greatestDoubt_17 : decode cX6_greatestDoubt 17 = .ok (.istore 4, 2) := by decide +kernel
theorem dX6_greatestDoubt_19 : decode cX6_greatestDoubt 19 = .ok (.iload 4, 2) := by decide +kernel
theorem dX6_greatestDoubt_21 : decode cX6_greatestDoubt 21 = .ok (.bipush 100, 2) := by decide +kernel
theorem dX6_greatestDoubt_23 : decode cX6_greatestDoubt 23 = .ok (.if_icmp .gt 37, 3) := by decide +kernel
theorem dX6_greatestDoubt_26 : decode cX6_greatestDoubt 26 = .ok (.aload_n 0, 1) := by decide +kernel
theorem dX6_greatestDoubt_27 : decode cX6_greatestDoubt 27 = .ok (.getfield 7, 3) := by decide +kernel
theorem dX6_greatestDoubt_30 : decode cX6_greatestDoubt 30 = .ok (.iconst 0, 1) := by decide +kernel
theorem dX6_greatestDoubt_31 : decode cX6_greatestDoubt 31 = .ok (.iload 4, 2) := by decide +kernel
theorem dX6_greatestDoubt_33 : decode cX6_greatestDoubt 33 = .ok (.iastore, 1) := by decide +kernel
theorem dX6_greatestDoubt_34 : decode cX6_greatestDoubt 34 = .ok (.aload_n 0, 1) := by decide +kernel
theorem dX6_greatestDoubt_35 : decode cX6_greatestDoubt 35 = .ok (.invokevirtual 126, 3) := by decide +kernel
theorem dX6_greatestDoubt_38 : decode cX6_greatestDoubt 38 = .ok (.aload_n 0, 1) := by decide +kernel
theorem dX6_greatestDoubt_39 : decode cX6_greatestDoubt 39 = .ok (.iconst 0, 1) := by decide +kernel
theorem dX6_greatestDoubt_40 : decode cX6_greatestDoubt 40 = .ok (.invokevirtual 132, 3) := by decide +kernel
theorem dX6_greatestDoubt_43 : decode cX6_greatestDoubt 43 = .ok (.iload_n 1, 1) := by decide +kernel
theorem dX6_greatestDoubt_44 : decode cX6_greatestDoubt 44 = .ok (.if_icmp .gt 8, 3) := by decide +kernel
theorem dX6_greatestDoubt_47 : decode cX6_greatestDoubt 47 = .ok (.iload 4, 2) := by decide +kernel
theorem dX6_greatestDoubt_49 : decode cX6_greatestDoubt 49 = .ok (.goto 4, 3) := by decide +kernel
theorem dX6_greatestDoubt_52 : decode cX6_greatestDoubt 52 = .ok (.iload_n 3, 1) := by decide +kernel
theorem dX6_greatestDoubt_53 : decode cX6_greatestDoubt 53 = .ok (.istore_n 3, 1) := by decide +kernel
theorem dX6_greatestDoubt_54 : decode cX6_greatestDoubt 54 = .ok (.iinc 4 1, 3) := by decide +kernel
theorem dX6_greatestDoubt_57 : decode cX6_greatestDoubt 57 = .ok (.goto (-38), 3) := by decide +kernel
theorem dX6_greatestDoubt_60 : decode cX6_greatestDoubt 60 = .ok (.aload_n 0, 1) := by decide +kernel
theorem dX6_greatestDoubt_61 : decode cX6_greatestDoubt 61 = .ok (.getfield 7, 3) := by decide +kernel
theorem dX6_greatestDoubt_64 : decode cX6_greatestDoubt 64 = .ok (.iconst 0, 1) := by decide +kernel
theorem dX6_greatestDoubt_65 : decode cX6_greatestDoubt 65 = .ok (.iload_n 2, 1) := by decide +kernel
theorem dX6_greatestDoubt_66 : decode cX6_greatestDoubt 66 = .ok (.iastore, 1) := by decide +kernel
theorem dX6_greatestDoubt_67 : decode cX6_greatestDoubt 67 = .ok (.iload_n 3, 1) := by decide +kernel
theorem dX6_greatestDoubt_68 : decode cX6_greatestDoubt 68 = .ok (.ireturn, 1) := by decide +kernel
abbrev rm_X6_greatestDoubt : Room := { frames := 6, cells := 0, slots := 0, locals := 139 }
theorem w_X6_greatestDoubt_b53 {C : zC} (hx : z_ok C cX6_greatestDoubt RX6 1) (hn : z_nL C = 5) (hR : z_R C = rm_X6_greatestDoubt) {rr : Int × zS} (hq : z_fin C (some .int) (z_QI (z_g C) rr.1 rr.2)) {K19 : zS → Int → Int → Int → Int → Option (Int × zS)} (hK19 : ∀ (σ : zS) (x1 : Int) (x2 : Int) (x3 : Int) (x4 : Int) , K19 σ x1 x2 x3 x4 = some rr → z_W C σ 19 [(0, .ref (z_ad (z_g C) 0)), (1, .int (zi x1)), (2, .int (zi x2)), (3, .int (zi x3)), (4, .int (zi x4))] []) (σ : zS) (x1 : Int) (x2 : Int) (x4 : Int) (s0 : Int) (h : f_X6_greatestDoubt_b53 K19 σ x1 x2 x4 s0 = some rr) : z_W C σ 53 [(0, .ref (z_ad (z_g C) 0)), (1, .int (zi x1)), (2, .int (zi x2)), (4, .int (zi x4))] [.int (zi s0)] := by
  unfold f_X6_greatestDoubt_b53 at h
  refine z_istore_n hx hn (lv' := [(3, .int (zi s0)), (0, .ref (z_ad (z_g C) 0)), (1, .int (zi x1)), (2, .int (zi x2)), (4, .int (zi x4))]) dX6_greatestDoubt_53 (by decide) rfl ?_
  refine z_iinc hx hn 4 (lv' := [(4, .int (zi (x4 + 1))), (3, .int (zi s0)), (0, .ref (z_ad (z_g C) 0)), (1, .int (zi x1)), (2, .int (zi x2))]) dX6_greatestDoubt_54 rfl (by decide) rfl ?_
  refine z_goto hx (tgt := 19) dX6_greatestDoubt_57 (by decide) ?_
  refine z_sub [2, 3, 4, 1, 0] rfl ?_
  exact hK19 σ x1 x2 s0 (x4 + 1) h

theorem w_X6_greatestDoubt_b19 {C : zC} (hx : z_ok C cX6_greatestDoubt RX6 1) (hn : z_nL C = 5) (hR : z_R C = rm_X6_greatestDoubt) {rr : Int × zS} (hq : z_fin C (some .int) (z_QI (z_g C) rr.1 rr.2)) {K19 : zS → Int → Int → Int → Int → Option (Int × zS)} (hK19 : ∀ (σ : zS) (x1 : Int) (x2 : Int) (x3 : Int) (x4 : Int) , K19 σ x1 x2 x3 x4 = some rr → z_W C σ 19 [(0, .ref (z_ad (z_g C) 0)), (1, .int (zi x1)), (2, .int (zi x2)), (3, .int (zi x3)), (4, .int (zi x4))] []) (σ : zS) (x1 : Int) (x2 : Int) (x3 : Int) (x4 : Int) (h : f_X6_greatestDoubt_b19 K19 σ x1 x2 x3 x4 = some rr) : z_W C σ 19 [(0, .ref (z_ad (z_g C) 0)), (1, .int (zi x1)), (2, .int (zi x2)), (3, .int (zi x3)), (4, .int (zi x4))] [] := by
  unfold f_X6_greatestDoubt_b19 at h
  refine z_iload hx 4 dX6_greatestDoubt_19 rfl ?_
  refine z_bipush hx (n := 100) dX6_greatestDoubt_21 rfl ?_
  refine z_icmp_gt hx (tgt := 60) dX6_greatestDoubt_23 (by decide) h (fun h => ⟨h, by decide⟩) (fun hc h => ?_) (fun hc h => ?_)
  · refine z_aload_n hx 0 dX6_greatestDoubt_60 rfl ?_
    refine gf_X6_v hx wf_X6_7 dX6_greatestDoubt_61 ?_
    refine z_iconst hx (n := 0) dX6_greatestDoubt_64 ?_
    refine z_iload_n hx 2 dX6_greatestDoubt_65 rfl ?_
    refine z_iast hx (n := 320) (z_lt1 (z_ok_sd hx) (by decide)) (z_kc1 (z_ok_sd hx)) rfl (by decide) dX6_greatestDoubt_66 h (fun σ1 h => ?_)
    refine z_iload_n hx 3 dX6_greatestDoubt_67 rfl ?_
    cases h
    exact z_iret hx hq dX6_greatestDoubt_68
  · refine z_aload_n hx 0 dX6_greatestDoubt_26 rfl ?_
    refine gf_X6_v hx wf_X6_7 dX6_greatestDoubt_27 ?_
    refine z_iconst hx (n := 0) dX6_greatestDoubt_30 ?_
    refine z_iload hx 4 dX6_greatestDoubt_31 rfl ?_
    refine z_iast hx (n := 320) (z_lt1 (z_ok_sd hx) (by decide)) (z_kc1 (z_ok_sd hx)) rfl (by decide) dX6_greatestDoubt_33 h (fun σ2 h => ?_)
    refine z_aload_n hx 0 dX6_greatestDoubt_34 rfl ?_
    obtain ⟨⟨⟩, σ3, h35, h⟩ := z_bind_some h
    refine z_callv hx (As := []) (k := 0) (met_X6_finds (z_l C) (z_g C) (z_ok_sd hx) h35) (z_lt1 (z_ok_sd hx) (by decide)) (z_kc0 (z_ok_sd hx) _) rfl rfl cv_X6_126 (z_room hR ⟨Nat.le_of_ble_eq_true rfl, Nat.le_of_ble_eq_true rfl⟩) ⟨rfl, rfl⟩ rfl rfl (Nat.le_of_ble_eq_true rfl) dX6_greatestDoubt_35 ?_
    refine z_aload_n hx 0 dX6_greatestDoubt_38 rfl ?_
    refine z_iconst hx (n := 0) dX6_greatestDoubt_39 ?_
    obtain ⟨r5, σ4, h40, h⟩ := z_bind_some h
    refine z_calli hx (As := [.int (zi 0)]) (k := 0) (met_X6_sumOf (z_l C) (z_g C) (z_ok_sd hx) h40) (z_lt1 (z_ok_sd hx) (by decide)) (z_kc0 (z_ok_sd hx) _) rfl rfl cv_X6_132 (z_room hR ⟨Nat.le_of_ble_eq_true rfl, Nat.le_of_ble_eq_true rfl⟩) ⟨rfl, rfl⟩ rfl rfl (Nat.le_of_ble_eq_true rfl) dX6_greatestDoubt_40 ?_
    refine z_iload_n hx 1 dX6_greatestDoubt_43 rfl ?_
    refine z_icmp_gt hx (tgt := 52) dX6_greatestDoubt_44 (by decide) h (fun h => h) (fun hc h => ?_) (fun hc h => ?_)
    · refine z_iload_n hx 3 dX6_greatestDoubt_52 rfl ?_
      refine z_sub [0, 1, 2, 4] rfl ?_
      exact w_X6_greatestDoubt_b53 hx hn hR hq hK19 σ4 x1 x2 x4 x3 h
    · refine z_iload hx 4 dX6_greatestDoubt_47 rfl ?_
      refine z_goto hx (tgt := 53) dX6_greatestDoubt_49 (by decide) ?_
      refine z_sub [0, 1, 2, 4] rfl ?_
      exact w_X6_greatestDoubt_b53 hx hn hR hq hK19 σ4 x1 x2 x4 x4 h

theorem w_X6_greatestDoubt_l19 {C : zC} (hx : z_ok C cX6_greatestDoubt RX6 1) (hn : z_nL C = 5) (hR : z_R C = rm_X6_greatestDoubt) {rr : Int × zS} (hq : z_fin C (some .int) (z_QI (z_g C) rr.1 rr.2)) : ∀ (n : Nat) (σ : zS) (x1 : Int) (x2 : Int) (x3 : Int) (x4 : Int) (_ : f_X6_greatestDoubt_l19 n σ x1 x2 x3 x4 = some rr), z_W C σ 19 [(0, .ref (z_ad (z_g C) 0)), (1, .int (zi x1)), (2, .int (zi x2)), (3, .int (zi x3)), (4, .int (zi x4))] [] := by
  intro n
  induction n with
  | zero => intro σ x1 x2 x3 x4 h; cases h
  | succ n ih =>
    intro σ x1 x2 x3 x4 h
    exact w_X6_greatestDoubt_b19 hx hn hR hq ih σ x1 x2 x3 x4 h
theorem w_X6_greatestDoubt {C : zC} (hx : z_ok C cX6_greatestDoubt RX6 1) (hn : z_nL C = 5) (hR : z_R C = rm_X6_greatestDoubt) {rr : Int × zS} (hq : z_fin C (some .int) (z_QI (z_g C) rr.1 rr.2)) (σ : zS) (x1 : Int) (h : f_X6_greatestDoubt σ x1 = some rr) : z_W C σ 0 [(0, .ref (z_ad (z_g C) 0)), (1, .int (zi x1))] [] := by
  unfold f_X6_greatestDoubt at h
  refine z_iload_n hx 1 dX6_greatestDoubt_0 rfl ?_
  refine z_if_ge hx (tgt := 6) dX6_greatestDoubt_1 (by decide) h (fun h => h) (fun hc h => ?_) (fun hc h => ?_)
  · refine z_aload_n hx 0 dX6_greatestDoubt_6 rfl ?_
    refine gf_X6_v hx wf_X6_7 dX6_greatestDoubt_7 ?_
    refine z_iconst hx (n := 0) dX6_greatestDoubt_10 ?_
    refine z_iald hx (n := 320) (z_lt1 (z_ok_sd hx) (by decide)) (z_kc1 (z_ok_sd hx) _) rfl (by decide) dX6_greatestDoubt_11 h (fun h => ?_)
    refine z_istore_n hx hn (lv' := [(2, .int (zi (σ 1 0))), (0, .ref (z_ad (z_g C) 0)), (1, .int (zi x1))]) dX6_greatestDoubt_12 (by decide) rfl ?_
    refine z_bipush hx (n := (-9)) dX6_greatestDoubt_13 rfl ?_
    refine z_istore_n hx hn (lv' := [(3, .int (zi (-9))), (2, .int (zi (σ 1 0))), (0, .ref (z_ad (z_g C) 0)), (1, .int (zi x1))]) dX6_greatestDoubt_15 (by decide) rfl ?_
    refine z_iconst hx (n := 0) dX6_greatestDoubt_16 ?_
    refine z_istore hx hn (lv' := [(4, .int (zi 0)), (3, .int (zi (-9))), (2, .int (zi (σ 1 0))), (0, .ref (z_ad (z_g C) 0)), (1, .int (zi x1))]) dX6_greatestDoubt_17 (by decide) rfl ?_
    refine z_sub [3, 4, 2, 1, 0] rfl ?_
    exact w_X6_greatestDoubt_l19 hx hn hR hq z_fuel σ x1 (σ 1 0) (-9) 0 h
  · refine z_iconst hx (n := (-1)) dX6_greatestDoubt_4 ?_
    cases h
    exact z_iret hx hq dX6_greatestDoubt_5

theorem met_X6_greatestDoubt (l : Launch) (g : zG) (hg : g.1 = 1) {σ : zS} {x1 : Int} {rr : Int × zS} (h : f_X6_greatestDoubt σ x1 = some rr) : z_Met l yX6_greatestDoubt cX6_greatestDoubt 5 (some .int) rm_X6_greatestDoubt g [.ref (z_ad (g) 0), .int (zi x1)] σ (z_QI g rr.1 rr.2) := by
  refine z_enter (own := RX6) (sd := 1) (lv0 := [(0, .ref (z_ad (g) 0)), (1, .int (zi x1))]) (by decide) rfl (Nat.le_of_ble_eq_true rfl) hg rfl (fun C hx hl hgC hR hn hq => ?_)
  subst hgC
  refine z_sub [0, 1] rfl ?_
  exact w_X6_greatestDoubt hx hn hR hq σ x1 h
theorem dX6_hears_0 : decode cX6_hears 0 = .ok (.aload_n 0, 1) := by decide +kernel
theorem dX6_hears_1 : decode cX6_hears 1 = .ok (.getfield 28, 3) := by decide +kernel
theorem dX6_hears_4 : decode cX6_hears 4 = .ok (.aload_n 0, 1) := by decide +kernel
theorem dX6_hears_5 : decode cX6_hears 5 = .ok (.getfield 135, 3) := by decide +kernel
theorem dX6_hears_8 : decode cX6_hears 8 = .ok (.iload_n 1, 1) := by decide +kernel
theorem dX6_hears_9 : decode cX6_hears 9 = .ok (.iastore, 1) := by decide +kernel
theorem dX6_hears_10 : decode cX6_hears 10 = .ok (.aload_n 0, 1) := by decide +kernel
theorem dX6_hears_11 : decode cX6_hears 11 = .ok (.getfield 31, 3) := by decide +kernel
theorem dX6_hears_14 : decode cX6_hears 14 = .ok (.aload_n 0, 1) := by decide +kernel
theorem dX6_hears_15 : decode cX6_hears 15 = .ok (.getfield 135, 3) := by decide +kernel
theorem dX6_hears_18 : decode cX6_hears 18 = .ok (.iload_n 2, 1) := by decide +kernel
theorem dX6_hears_19 : decode cX6_hears 19 = .ok (.iastore, 1) := by decide +kernel
theorem dX6_hears_20 : decode cX6_hears 20 = .ok (.aload_n 0, 1) := by decide +kernel
theorem dX6_hears_21 : decode cX6_hears 21 = .ok (.dup, 1) := by decide +kernel
theorem dX6_hears_22 : decode cX6_hears 22 = .ok (.getfield 135, 3) := by decide +kernel
theorem dX6_hears_25 : decode cX6_hears 25 = .ok (.iconst 1, 1) := by decide +kernel
theorem dX6_hears_26 : decode cX6_hears 26 = .ok (.iadd, 1) := by decide +kernel
theorem dX6_hears_27 : decode cX6_hears 27 = .ok (.putfield 135, 3) := by decide +kernel
theorem dX6_hears_30 : decode cX6_hears 30 = .ok (.return_, 1) := by decide +kernel
abbrev rm_X6_hears : Room := { frames := 0, cells := 0, slots := 0, locals := 0 }
theorem w_X6_hears {C : zC} (hx : z_ok C cX6_hears RX6 1) (hn : z_nL C = 3) (hR : z_R C = rm_X6_hears) {rr : Unit × zS} (hq : z_fin C none (z_QV (z_g C) rr.2)) (σ : zS) (x1 : Int) (x2 : Int) (h : f_X6_hears σ x1 x2 = some rr) : z_W C σ 0 [(0, .ref (z_ad (z_g C) 0)), (1, .int (zi x1)), (2, .int (zi x2))] [] := by
  unfold f_X6_hears at h
  refine z_aload_n hx 0 dX6_hears_0 rfl ?_
  refine gf_X6_source hx wf_X6_28 dX6_hears_1 ?_
  refine z_aload_n hx 0 dX6_hears_4 rfl ?_
  refine gf_X6_heardMany hx wf_X6_135 dX6_hears_5 ?_
  refine z_iload_n hx 1 dX6_hears_8 rfl ?_
  refine z_iast hx (n := 1400) (z_lt1 (z_ok_sd hx) (by decide)) (z_kc7 (z_ok_sd hx)) rfl (by decide) dX6_hears_9 h (fun σ1 h => ?_)
  refine z_aload_n hx 0 dX6_hears_10 rfl ?_
  refine gf_X6_heardLevel hx wf_X6_31 dX6_hears_11 ?_
  refine z_aload_n hx 0 dX6_hears_14 rfl ?_
  refine gf_X6_heardMany hx wf_X6_135 dX6_hears_15 ?_
  refine z_iload_n hx 2 dX6_hears_18 rfl ?_
  refine z_iast hx (n := 1400) (z_lt1 (z_ok_sd hx) (by decide)) (z_kc8 (z_ok_sd hx)) rfl (by decide) dX6_hears_19 h (fun σ2 h => ?_)
  refine z_aload_n hx 0 dX6_hears_20 rfl ?_
  refine z_dup hx dX6_hears_21 rfl ?_
  refine gf_X6_heardMany hx wf_X6_135 dX6_hears_22 ?_
  refine z_iconst hx (n := 1) dX6_hears_25 ?_
  refine z_iadd hx dX6_hears_26 ?_
  refine pf_X6_heardMany hx wf_X6_135 dX6_hears_27 h (fun σ3 h => ?_)
  cases h
  exact z_vret hx hq dX6_hears_30

theorem met_X6_hears (l : Launch) (g : zG) (hg : g.1 = 1) {σ : zS} {x1 : Int} {x2 : Int} {rr : Unit × zS} (h : f_X6_hears σ x1 x2 = some rr) : z_Met l yX6_hears cX6_hears 3 none rm_X6_hears g [.ref (z_ad (g) 0), .int (zi x1), .int (zi x2)] σ (z_QV g rr.2) := by
  refine z_enter (own := RX6) (sd := 1) (lv0 := [(0, .ref (z_ad (g) 0)), (1, .int (zi x1)), (2, .int (zi x2))]) (by decide) rfl (Nat.le_of_ble_eq_true rfl) hg rfl (fun C hx hl hgC hR hn hq => ?_)
  subst hgC
  refine z_sub [0, 1, 2] rfl ?_
  exact w_X6_hears hx hn hR hq σ x1 x2 h
theorem dX6_pauses_0 : decode cX6_pauses 0 = .ok (.iconst 0, 1) := by decide +kernel
theorem dX6_pauses_1 : decode cX6_pauses 1 = .ok (.istore_n 2, 1) := by decide +kernel
theorem dX6_pauses_2 : decode cX6_pauses 2 = .ok (.iload_n 2, 1) := by decide +kernel
theorem dX6_pauses_3 : decode cX6_pauses 3 = .ok (.iload_n 1, 1) := by decide +kernel
theorem dX6_pauses_4 : decode cX6_pauses 4 = .ok (.if_icmp .ge 87, 3) := by decide +kernel
theorem dX6_pauses_7 : decode cX6_pauses 7 = .ok (.aload_n 0, 1) := by decide +kernel
theorem dX6_pauses_8 : decode cX6_pauses 8 = .ok (.getfield 138, 3) := by decide +kernel
theorem dX6_pauses_11 : decode cX6_pauses 11 = .ok (.ifCond .ne 7, 3) := by decide +kernel
theorem dX6_pauses_14 : decode cX6_pauses 14 = .ok (.iconst 0, 1) := by decide +kernel
theorem dX6_pauses_15 : decode cX6_pauses 15 = .ok (.goto 17, 3) := by decide +kernel
theorem dX6_pauses_18 : decode cX6_pauses 18 = .ok (.aload_n 0, 1) := by decide +kernel
theorem dX6_pauses_19 : decode cX6_pauses 19 = .ok (.getfield 34, 3) := by decide +kernel
theorem dX6_pauses_22 : decode cX6_pauses 22 = .ok (.aload_n 0, 1) := by decide +kernel
theorem dX6_pauses_23 : decode cX6_pauses 23 = .ok (.getfield 141, 3) := by decide +kernel
theorem dX6_pauses_26 : decode cX6_pauses 26 = .ok (.aload_n 0, 1) := by decide +kernel
theorem dX6_pauses_27 : decode cX6_pauses 27 = .ok (.getfield 138, 3) := by decide +kernel
theorem dX6_pauses_30 : decode cX6_pauses 30 = .ok (.irem, 1) := by decide +kernel
theorem dX6_pauses_31 : decode cX6_pauses 31 = .ok (.iaload, 1) := by decide +kernel
theorem dX6_pauses_32 : decode cX6_pauses 32 = .ok (.istore_n 3, 1) := by decide +kernel
theorem dX6_pauses_33 : decode cX6_pauses 33 = .ok (.aload_n 0, 1) := by decide +kernel
theorem dX6_pauses_34 : decode cX6_pauses 34 = .ok (.aload_n 0, 1) := by decide +kernel
theorem dX6_pauses_35 : decode cX6_pauses 35 = .ok (.getfield 138, 3) := by decide +kernel
theorem dX6_pauses_38 : decode cX6_pauses 38 = .ok (.ifCond .ne 9, 3) := by decide +kernel
theorem dX6_pauses_41 : decode cX6_pauses 41 = .ok (.sipush 2000, 3) := by decide +kernel
theorem dX6_pauses_44 : decode cX6_pauses 44 = .ok (.goto 8, 3) := by decide +kernel
theorem dX6_pauses_47 : decode cX6_pauses 47 = .ok (.sipush 1000, 3) := by decide +kernel
theorem dX6_pauses_50 : decode cX6_pauses 50 = .ok (.iload_n 3, 1) := by decide +kernel
theorem dX6_pauses_51 : decode cX6_pauses 51 = .ok (.iadd, 1) := by decide +kernel
theorem dX6_pauses_52 : decode cX6_pauses 52 = .ok (.aload_n 0, 1) := by decide +kernel
theorem dX6_pauses_53 : decode cX6_pauses 53 = .ok (.getfield 138, 3) := by decide +kernel
theorem dX6_pauses_56 : decode cX6_pauses 56 = .ok (.ifCond .ne 7, 3) := by decide +kernel
theorem dX6_pauses_59 : decode cX6_pauses 59 = .ok (.iconst 0, 1) := by decide +kernel
theorem dX6_pauses_60 : decode cX6_pauses 60 = .ok (.goto 12, 3) := by decide +kernel
theorem dX6_pauses_63 : decode cX6_pauses 63 = .ok (.aload_n 0, 1) := by decide +kernel
theorem dX6_pauses_64 : decode cX6_pauses 64 = .ok (.getfield 7, 3) := by decide +kernel
theorem dX6_pauses_67 : decode cX6_pauses 67 = .ok (.bipush 10, 2) := by decide +kernel
theorem dX6_pauses_69 : decode cX6_pauses 69 = .ok (.iload_n 3, 1) := by decide +kernel
theorem dX6_pauses_70 : decode cX6_pauses 70 = .ok (.iadd, 1) := by decide +kernel
theorem dX6_pauses_71 : decode cX6_pauses 71 = .ok (.iaload, 1) := by decide +kernel
theorem dX6_pauses_72 : decode cX6_pauses 72 = .ok (.invokevirtual 144, 3) := by decide +kernel
theorem dX6_pauses_75 : decode cX6_pauses 75 = .ok (.aload_n 0, 1) := by decide +kernel
theorem dX6_pauses_76 : decode cX6_pauses 76 = .ok (.dup, 1) := by decide +kernel
theorem dX6_pauses_77 : decode cX6_pauses 77 = .ok (.getfield 141, 3) := by decide +kernel
theorem dX6_pauses_80 : decode cX6_pauses 80 = .ok (.iconst 1, 1) := by decide +kernel
theorem dX6_pauses_81 : decode cX6_pauses 81 = .ok (.iadd, 1) := by decide +kernel
theorem dX6_pauses_82 : decode cX6_pauses 82 = .ok (.putfield 141, 3) := by decide +kernel
theorem dX6_pauses_85 : decode cX6_pauses 85 = .ok (.iinc 2 1, 3) := by decide +kernel
theorem dX6_pauses_88 : decode cX6_pauses 88 = .ok (.goto (-86), 3) := by decide +kernel
theorem dX6_pauses_91 : decode cX6_pauses 91 = .ok (.return_, 1) := by decide +kernel
abbrev rm_X6_pauses : Room := { frames := 1, cells := 0, slots := 0, locals := 22 }
theorem w_X6_pauses_b72 {C : zC} (hx : z_ok C cX6_pauses RX6 1) (hn : z_nL C = 4) (hR : z_R C = rm_X6_pauses) {rr : Unit × zS} (hq : z_fin C none (z_QV (z_g C) rr.2)) {K2 : zS → Int → Int → Option (Unit × zS)} (hK2 : ∀ (σ : zS) (x1 : Int) (x2 : Int) , K2 σ x1 x2 = some rr → z_W C σ 2 [(0, .ref (z_ad (z_g C) 0)), (1, .int (zi x1)), (2, .int (zi x2))] []) (σ : zS) (x1 : Int) (x2 : Int) (s1 : Int) (s2 : Int) (h : f_X6_pauses_b72 K2 σ x1 x2 s1 s2 = some rr) : z_W C σ 72 [(0, .ref (z_ad (z_g C) 0)), (1, .int (zi x1)), (2, .int (zi x2))] [.int (zi s2), .int (zi s1), .ref (z_ad (z_g C) 0)] := by
  unfold f_X6_pauses_b72 at h
  obtain ⟨⟨⟩, σ1, h72, h⟩ := z_bind_some h
  refine z_callv hx (As := [.int (zi s1), .int (zi s2)]) (k := 0) (met_X6_hears (z_l C) (z_g C) (z_ok_sd hx) h72) (z_lt1 (z_ok_sd hx) (by decide)) (z_kc0 (z_ok_sd hx) _) rfl rfl cv_X6_144 (z_room hR ⟨Nat.le_of_ble_eq_true rfl, Nat.le_of_ble_eq_true rfl⟩) ⟨rfl, rfl⟩ rfl rfl (Nat.le_of_ble_eq_true rfl) dX6_pauses_72 ?_
  refine z_aload_n hx 0 dX6_pauses_75 rfl ?_
  refine z_dup hx dX6_pauses_76 rfl ?_
  refine gf_X6_taken hx wf_X6_141 dX6_pauses_77 ?_
  refine z_iconst hx (n := 1) dX6_pauses_80 ?_
  refine z_iadd hx dX6_pauses_81 ?_
  refine pf_X6_taken hx wf_X6_141 dX6_pauses_82 h (fun σ2 h => ?_)
  refine z_iinc hx hn 2 (lv' := [(2, .int (zi (x2 + 1))), (0, .ref (z_ad (z_g C) 0)), (1, .int (zi x1))]) dX6_pauses_85 rfl (by decide) rfl ?_
  refine z_goto hx (tgt := 2) dX6_pauses_88 (by decide) ?_
  refine z_sub [1, 2, 0] rfl ?_
  exact hK2 σ2 x1 (x2 + 1) h

theorem w_X6_pauses_b52 {C : zC} (hx : z_ok C cX6_pauses RX6 1) (hn : z_nL C = 4) (hR : z_R C = rm_X6_pauses) {rr : Unit × zS} (hq : z_fin C none (z_QV (z_g C) rr.2)) {K2 : zS → Int → Int → Option (Unit × zS)} (hK2 : ∀ (σ : zS) (x1 : Int) (x2 : Int) , K2 σ x1 x2 = some rr → z_W C σ 2 [(0, .ref (z_ad (z_g C) 0)), (1, .int (zi x1)), (2, .int (zi x2))] []) (σ : zS) (x1 : Int) (x2 : Int) (x3 : Int) (s1 : Int) (h : f_X6_pauses_b52 K2 σ x1 x2 x3 s1 = some rr) : z_W C σ 52 [(0, .ref (z_ad (z_g C) 0)), (1, .int (zi x1)), (2, .int (zi x2)), (3, .int (zi x3))] [.int (zi s1), .ref (z_ad (z_g C) 0)] := by
  unfold f_X6_pauses_b52 at h
  refine z_aload_n hx 0 dX6_pauses_52 rfl ?_
  refine gf_X6_roomMany hx wf_X6_138 dX6_pauses_53 ?_
  refine z_if_ne hx (tgt := 63) dX6_pauses_56 (by decide) h (fun h => h) (fun hc h => ?_) (fun hc h => ?_)
  · refine z_aload_n hx 0 dX6_pauses_63 rfl ?_
    refine gf_X6_v hx wf_X6_7 dX6_pauses_64 ?_
    refine z_bipush hx (n := 10) dX6_pauses_67 rfl ?_
    refine z_iload_n hx 3 dX6_pauses_69 rfl ?_
    refine z_iadd hx dX6_pauses_70 ?_
    refine z_iald hx (n := 320) (z_lt1 (z_ok_sd hx) (by decide)) (z_kc1 (z_ok_sd hx) _) rfl (by decide) dX6_pauses_71 h (fun h => ?_)
    refine z_sub [0, 1, 2] rfl ?_
    exact w_X6_pauses_b72 hx hn hR hq hK2 σ x1 x2 s1 (σ 1 (10 + x3)) h
  · refine z_iconst hx (n := 0) dX6_pauses_59 ?_
    refine z_goto hx (tgt := 72) dX6_pauses_60 (by decide) ?_
    refine z_sub [0, 1, 2] rfl ?_
    exact w_X6_pauses_b72 hx hn hR hq hK2 σ x1 x2 s1 0 h

theorem w_X6_pauses_b32 {C : zC} (hx : z_ok C cX6_pauses RX6 1) (hn : z_nL C = 4) (hR : z_R C = rm_X6_pauses) {rr : Unit × zS} (hq : z_fin C none (z_QV (z_g C) rr.2)) {K2 : zS → Int → Int → Option (Unit × zS)} (hK2 : ∀ (σ : zS) (x1 : Int) (x2 : Int) , K2 σ x1 x2 = some rr → z_W C σ 2 [(0, .ref (z_ad (z_g C) 0)), (1, .int (zi x1)), (2, .int (zi x2))] []) (σ : zS) (x1 : Int) (x2 : Int) (s0 : Int) (h : f_X6_pauses_b32 K2 σ x1 x2 s0 = some rr) : z_W C σ 32 [(0, .ref (z_ad (z_g C) 0)), (1, .int (zi x1)), (2, .int (zi x2))] [.int (zi s0)] := by
  unfold f_X6_pauses_b32 at h
  refine z_istore_n hx hn (lv' := [(3, .int (zi s0)), (0, .ref (z_ad (z_g C) 0)), (1, .int (zi x1)), (2, .int (zi x2))]) dX6_pauses_32 (by decide) rfl ?_
  refine z_aload_n hx 1 dX6_pauses_33 rfl ?_
  refine z_aload_n hx 1 dX6_pauses_34 rfl ?_
  refine gf_X6_roomMany hx wf_X6_138 dX6_pauses_35 ?_
  refine z_if_ne hx (tgt := 47) dX6_pauses_38 (by decide) h (fun h => h) (fun hc h => ?_) (fun hc h => ?_)
  · refine z_sipush hx (n := 1000) dX6_pauses_47 rfl ?_
    refine z_iload_n hx 0 dX6_pauses_50 rfl ?_
    refine z_iadd hx dX6_pauses_51 ?_
    refine z_sub [1, 2, 3, 0] rfl ?_
    exact w_X6_pauses_b52 hx hn hR hq hK2 σ x1 x2 s0 (1000 + s0) h
  · refine z_sipush hx (n := 2000) dX6_pauses_41 rfl ?_
    refine z_goto hx (tgt := 52) dX6_pauses_44 (by decide) ?_
    refine z_sub [1, 2, 3, 0] rfl ?_
    exact w_X6_pauses_b52 hx hn hR hq hK2 σ x1 x2 s0 2000 h

theorem w_X6_pauses_b2 {C : zC} (hx : z_ok C cX6_pauses RX6 1) (hn : z_nL C = 4) (hR : z_R C = rm_X6_pauses) {rr : Unit × zS} (hq : z_fin C none (z_QV (z_g C) rr.2)) {K2 : zS → Int → Int → Option (Unit × zS)} (hK2 : ∀ (σ : zS) (x1 : Int) (x2 : Int) , K2 σ x1 x2 = some rr → z_W C σ 2 [(0, .ref (z_ad (z_g C) 0)), (1, .int (zi x1)), (2, .int (zi x2))] []) (σ : zS) (x1 : Int) (x2 : Int) (h : f_X6_pauses_b2 K2 σ x1 x2 = some rr) : z_W C σ 2 [(0, .ref (z_ad (z_g C) 0)), (1, .int (zi x1)), (2, .int (zi x2))] [] := by
  unfold f_X6_pauses_b2 at h
  refine z_iload_n hx 2 dX6_pauses_2 rfl ?_
  refine z_iload_n hx 1 dX6_pauses_3 rfl ?_
  refine z_icmp_ge hx (tgt := 91) dX6_pauses_4 (by decide) h (fun h => h) (fun hc h => ?_) (fun hc h => ?_)
  · cases h
    exact z_vret hx hq dX6_pauses_91
  · refine z_aload_n hx 0 dX6_pauses_7 rfl ?_
    refine gf_X6_roomMany hx wf_X6_138 dX6_pauses_8 ?_
    refine z_if_ne hx (tgt := 18) dX6_pauses_11 (by decide) h (fun h => h) (fun hc h => ?_) (fun hc h => ?_)
    · refine z_aload_n hx 0 dX6_pauses_18 rfl ?_
      refine gf_X6_room hx wf_X6_34 dX6_pauses_19 ?_
      refine z_aload_n hx 0 dX6_pauses_22 rfl ?_
      refine gf_X6_taken hx wf_X6_141 dX6_pauses_23 ?_
      refine z_aload_n hx 0 dX6_pauses_26 rfl ?_
      refine gf_X6_roomMany hx wf_X6_138 dX6_pauses_27 ?_
      refine z_irem hx dX6_pauses_30 h (fun h => ?_)
      refine z_iald hx (n := 200) (z_lt1 (z_ok_sd hx) (by decide)) (z_kc9 (z_ok_sd hx) _) rfl (by decide) dX6_pauses_31 h (fun h => ?_)
      refine z_sub [0, 1, 2] rfl ?_
      exact w_X6_pauses_b32 hx hn hR hq hK2 σ x1 x2 (σ 9 ((σ 0 18).tmod (σ 0 17))) h
    · refine z_iconst hx (n := 0) dX6_pauses_14 ?_
      refine z_goto hx (tgt := 32) dX6_pauses_15 (by decide) ?_
      refine z_sub [0, 1, 2] rfl ?_
      exact w_X6_pauses_b32 hx hn hR hq hK2 σ x1 x2 0 h

theorem w_X6_pauses_l2 {C : zC} (hx : z_ok C cX6_pauses RX6 1) (hn : z_nL C = 4) (hR : z_R C = rm_X6_pauses) {rr : Unit × zS} (hq : z_fin C none (z_QV (z_g C) rr.2)) : ∀ (n : Nat) (σ : zS) (x1 : Int) (x2 : Int) (_ : f_X6_pauses_l2 n σ x1 x2 = some rr), z_W C σ 2 [(0, .ref (z_ad (z_g C) 0)), (1, .int (zi x1)), (2, .int (zi x2))] [] := by
  intro n
  induction n with
  | zero => intro σ x1 x2 h; cases h
  | succ n ih =>
    intro σ x1 x2 h
    exact w_X6_pauses_b2 hx hn hR hq ih σ x1 x2 h
theorem w_X6_pauses {C : zC} (hx : z_ok C cX6_pauses RX6 1) (hn : z_nL C = 4) (hR : z_R C = rm_X6_pauses) {rr : Unit × zS} (hq : z_fin C none (z_QV (z_g C) rr.2)) (σ : zS) (x1 : Int) (h : f_X6_pauses σ x1 = some rr) : z_W C σ 0 [(0, .ref (z_ad (z_g C) 0)), (1, .int (zi x1))] [] := by
  unfold f_X6_pauses at h
  refine z_iconst hx (n := 0) dX6_pauses_0 ?_
  refine z_istore_n hx hn (lv' := [(2, .int (zi 0)), (0, .ref (z_ad (z_g C) 0)), (1, .int (zi x1))]) dX6_pauses_1 (by decide) rfl ?_
  refine z_sub [1, 2, 0] rfl ?_
  exact w_X6_pauses_l2 hx hn hR hq z_fuel σ x1 0 h

theorem met_X6_pauses (l : Launch) (g : zG) (hg : g.1 = 1) {σ : zS} {x1 : Int} {rr : Unit × zS} (h : f_X6_pauses σ x1 = some rr) : z_Met l yX6_pauses cX6_pauses 4 none rm_X6_pauses g [.ref (z_ad (g) 0), .int (zi x1)] σ (z_QV g rr.2) := by
  refine z_enter (own := RX6) (sd := 1) (lv0 := [(0, .ref (z_ad (g) 0)), (1, .int (zi x1))]) (by decide) rfl (Nat.le_of_ble_eq_true rfl) hg rfl (fun C hx hl hgC hR hn hq => ?_)
  subst hgC
  refine z_sub [0, 1] rfl ?_
  exact w_X6_pauses hx hn hR hq σ x1 h
theorem dX6_isNoise_0 : decode cX6_isNoise 0 = .ok (.iconst 0, 1) := by decide +kernel
theorem dX6_isNoise_1 : decode cX6_isNoise 1 = .ok (.istore_n 2, 1) := by decide +kernel
theorem dX6_isNoise_2 : decode cX6_isNoise 2 = .ok (.iconst 0, 1) := by decide +kernel
theorem dX6_isNoise_3 : decode cX6_isNoise 3 = .ok (.istore_n 3, 1) := by decide +kernel
theorem dX6_isNoise_4 : decode cX6_isNoise 4 = .ok (.iload_n 3, 1) := by decide +kernel
theorem dX6_isNoise_5 : decode cX6_isNoise 5 = .ok (.aload_n 0, 1) := by decide +kernel
theorem dX6_isNoise_6 : decode cX6_isNoise 6 = .ok (.getfield 7, 3) := by decide +kernel
theorem dX6_isNoise_9 : decode cX6_isNoise 9 = .ok (.bipush 8, 2) := by decide +kernel
theorem dX6_isNoise_11 : decode cX6_isNoise 11 = .ok (.iaload, 1) := by decide +kernel
theorem dX6_isNoise_12 : decode cX6_isNoise 12 = .ok (.if_icmp .ge 50, 3) := by decide +kernel
theorem dX6_isNoise_15 : decode cX6_isNoise 15 = .ok (.iload_n 2, 1) := by decide +kernel
theorem dX6_isNoise_16 : decode cX6_isNoise 16 = .ok (.ifCond .ne 34, 3) := by decide +kernel
theorem dX6_isNoise_19 : decode cX6_isNoise 19 = .ok (.aload_n 0, 1) := by decide +kernel
theorem dX6_isNoise_20 : decode cX6_isNoise 20 = .ok (.iload_n 3, 1) := by decide +kernel
theorem dX6_isNoise_21 : decode cX6_isNoise 21 = .ok (.iconst 0, 1) := by decide +kernel
theorem dX6_isNoise_22 : decode cX6_isNoise 22 = .ok (.invokevirtual 92, 3) := by decide +kernel
theorem dX6_isNoise_25 : decode cX6_isNoise 25 = .ok (.iconst 3, 1) := by decide +kernel
theorem dX6_isNoise_26 : decode cX6_isNoise 26 = .ok (.if_icmp .ne 28, 3) := by decide +kernel
theorem dX6_isNoise_29 : decode cX6_isNoise 29 = .ok (.iload_n 1, 1) := by decide +kernel
theorem dX6_isNoise_30 : decode cX6_isNoise 30 = .ok (.aload_n 0, 1) := by decide +kernel
theorem dX6_isNoise_31 : decode cX6_isNoise 31 = .ok (.iload_n 3, 1) := by decide +kernel
theorem dX6_isNoise_32 : decode cX6_isNoise 32 = .ok (.iconst 1, 1) := by decide +kernel
theorem dX6_isNoise_33 : decode cX6_isNoise 33 = .ok (.invokevirtual 92, 3) := by decide +kernel
theorem dX6_isNoise_36 : decode cX6_isNoise 36 = .ok (.aload_n 0, 1) := by decide +kernel
theorem dX6_isNoise_37 : decode cX6_isNoise 37 = .ok (.iload_n 3, 1) := by decide +kernel
theorem dX6_isNoise_38 : decode cX6_isNoise 38 = .ok (.iconst 2, 1) := by decide +kernel
theorem dX6_isNoise_39 : decode cX6_isNoise 39 = .ok (.invokevirtual 92, 3) := by decide +kernel
theorem dX6_isNoise_42 : decode cX6_isNoise 42 = .ok (.iconst 1, 1) := by decide +kernel
theorem dX6_isNoise_43 : decode cX6_isNoise 43 = .ok (.isub, 1) := by decide +kernel
theorem dX6_isNoise_44 : decode cX6_isNoise 44 = .ok (.invokestatic 41, 3) := by decide +kernel
theorem dX6_isNoise_47 : decode cX6_isNoise 47 = .ok (.ifCond .eq 7, 3) := by decide +kernel
theorem dX6_isNoise_50 : decode cX6_isNoise 50 = .ok (.iconst 1, 1) := by decide +kernel
theorem dX6_isNoise_51 : decode cX6_isNoise 51 = .ok (.goto 4, 3) := by decide +kernel
theorem dX6_isNoise_54 : decode cX6_isNoise 54 = .ok (.iconst 0, 1) := by decide +kernel
theorem dX6_isNoise_55 : decode cX6_isNoise 55 = .ok (.istore_n 2, 1) := by decide +kernel
theorem dX6_isNoise_56 : decode cX6_isNoise 56 = .ok (.iinc 3 1, 3) := by decide +kernel
theorem dX6_isNoise_59 : decode cX6_isNoise 59 = .ok (.goto (-55), 3) := by decide +kernel
theorem dX6_isNoise_62 : decode cX6_isNoise 62 = .ok (.iload_n 2, 1) := by decide +kernel
theorem dX6_isNoise_63 : decode cX6_isNoise 63 = .ok (.ireturn, 1) := by decide +kernel
abbrev rm_X6_isNoise : Room := { frames := 1, cells := 0, slots := 0, locals := 22 }
theorem w_X6_isNoise_b55 {C : zC} (hx : z_ok C cX6_isNoise RX6 1) (hn : z_nL C = 4) (hR : z_R C = rm_X6_isNoise) {rr : Int × zS} (hq : z_fin C (some .boolean) (z_QI (z_g C) rr.1 rr.2)) {K4 : zS → Int → Int → Int → Option (Int × zS)} (hK4 : ∀ (σ : zS) (x1 : Int) (x2 : Int) (x3 : Int) , K4 σ x1 x2 x3 = some rr → z_W C σ 4 [(0, .ref (z_ad (z_g C) 0)), (1, .int (zi x1)), (2, .int (zi x2)), (3, .int (zi x3))] []) (σ : zS) (x1 : Int) (x3 : Int) (s0 : Int) (h : f_X6_isNoise_b55 K4 σ x1 x3 s0 = some rr) : z_W C σ 55 [(0, .ref (z_ad (z_g C) 0)), (1, .int (zi x1)), (3, .int (zi x3))] [.int (zi s0)] := by
  unfold f_X6_isNoise_b55 at h
  refine z_istore_n hx hn (lv' := [(2, .int (zi s0)), (0, .ref (z_ad (z_g C) 0)), (1, .int (zi x1)), (3, .int (zi x3))]) dX6_isNoise_55 (by decide) rfl ?_
  refine z_iinc hx hn 3 (lv' := [(3, .int (zi (x3 + 1))), (2, .int (zi s0)), (0, .ref (z_ad (z_g C) 0)), (1, .int (zi x1))]) dX6_isNoise_56 rfl (by decide) rfl ?_
  refine z_goto hx (tgt := 4) dX6_isNoise_59 (by decide) ?_
  refine z_sub [2, 3, 1, 0] rfl ?_
  exact hK4 σ x1 s0 (x3 + 1) h

theorem w_X6_isNoise_b54 {C : zC} (hx : z_ok C cX6_isNoise RX6 1) (hn : z_nL C = 4) (hR : z_R C = rm_X6_isNoise) {rr : Int × zS} (hq : z_fin C (some .boolean) (z_QI (z_g C) rr.1 rr.2)) {K4 : zS → Int → Int → Int → Option (Int × zS)} (hK4 : ∀ (σ : zS) (x1 : Int) (x2 : Int) (x3 : Int) , K4 σ x1 x2 x3 = some rr → z_W C σ 4 [(0, .ref (z_ad (z_g C) 0)), (1, .int (zi x1)), (2, .int (zi x2)), (3, .int (zi x3))] []) (σ : zS) (x1 : Int) (x3 : Int) (h : f_X6_isNoise_b54 K4 σ x1 x3 = some rr) : z_W C σ 54 [(0, .ref (z_ad (z_g C) 0)), (1, .int (zi x1)), (3, .int (zi x3))] [] := by
  unfold f_X6_isNoise_b54 at h
  refine z_iconst hx (n := 0) dX6_isNoise_54 ?_
  refine z_sub [0, 1, 2] rfl ?_
  exact w_X6_isNoise_b55 hx hn hR hq hK4 σ x1 x3 0 h

theorem w_X6_isNoise_b50 {C : zC} (hx : z_ok C cX6_isNoise RX6 1) (hn : z_nL C = 4) (hR : z_R C = rm_X6_isNoise) {rr : Int × zS} (hq : z_fin C (some .boolean) (z_QI (z_g C) rr.1 rr.2)) {K4 : zS → Int → Int → Int → Option (Int × zS)} (hK4 : ∀ (σ : zS) (x1 : Int) (x2 : Int) (x3 : Int) , K4 σ x1 x2 x3 = some rr → z_W C σ 4 [(0, .ref (z_ad (z_g C) 0)), (1, .int (zi x1)), (2, .int (zi x2)), (3, .int (zi x3))] []) (σ : zS) (x1 : Int) (x3 : Int) (h : f_X6_isNoise_b50 K4 σ x1 x3 = some rr) : z_W C σ 50 [(0, .ref (z_ad (z_g C) 0)), (1, .int (zi x1)), (3, .int (zi x3))] [] := by
  unfold f_X6_isNoise_b50 at h
  refine z_iconst hx (n := 1) dX6_isNoise_50 ?_
  refine z_goto hx (tgt := 55) dX6_isNoise_51 (by decide) ?_
  refine z_sub [0, 1, 2] rfl ?_
  exact w_X6_isNoise_b55 hx hn hR hq hK4 σ x1 x3 1 h

theorem w_X6_isNoise_b4 {C : zC} (hx : z_ok C cX6_isNoise RX6 1) (hn : z_nL C = 4) (hR : z_R C = rm_X6_isNoise) {rr : Int × zS} (hq : z_fin C (some .boolean) (z_QI (z_g C) rr.1 rr.2)) {K4 : zS → Int → Int → Int → Option (Int × zS)} (hK4 : ∀ (σ : zS) (x1 : Int) (x2 : Int) (x3 : Int) , K4 σ x1 x2 x3 = some rr → z_W C σ 4 [(0, .ref (z_ad (z_g C) 0)), (1, .int (zi x1)), (2, .int (zi x2)), (3, .int (zi x3))] []) (σ : zS) (x1 : Int) (x2 : Int) (x3 : Int) (h : f_X6_isNoise_b4 K4 σ x1 x2 x3 = some rr) : z_W C σ 4 [(0, .ref (z_ad (z_g C) 0)), (1, .int (zi x1)), (2, .int (zi x2)), (3, .int (zi x3))] [] := by
  unfold f_X6_isNoise_b4 at h
  refine z_iload_n hx 3 dX6_isNoise_4 rfl ?_
  refine z_aload_n hx 0 dX6_isNoise_5 rfl ?_
  refine gf_X6_v hx wf_X6_7 dX6_isNoise_6 ?_
  refine z_bipush hx (n := 8) dX6_isNoise_9 rfl ?_
  refine z_iald hx (n := 320) (z_lt1 (z_ok_sd hx) (by decide)) (z_kc1 (z_ok_sd hx) _) rfl (by decide) dX6_isNoise_11 h (fun h => ?_)
  refine z_icmp_ge hx (tgt := 62) dX6_isNoise_12 (by decide) h (fun h => h) (fun hc h => ?_) (fun hc h => ?_)
  · refine z_iload_n hx 2 dX6_isNoise_62 rfl ?_
    obtain ⟨hz, h⟩ := z_gd h
    cases h
    exact z_zret hx hz hq dX6_isNoise_63
  · refine z_iload_n hx 2 dX6_isNoise_15 rfl ?_
    refine z_if_ne hx (tgt := 50) dX6_isNoise_16 (by decide) h (fun h => h) (fun hc h => ?_) (fun hc h => ?_)
    · refine z_sub [0, 1, 3] rfl ?_
      exact w_X6_isNoise_b50 hx hn hR hq hK4 σ x1 x3 h
    · refine z_aload_n hx 0 dX6_isNoise_19 rfl ?_
      refine z_iload_n hx 3 dX6_isNoise_20 rfl ?_
      refine z_iconst hx (n := 0) dX6_isNoise_21 ?_
      obtain ⟨r2, σ1, h22, h⟩ := z_bind_some h
      refine z_calli hx (As := [.int (zi x3), .int (zi 0)]) (k := 0) (met_X6_of (z_l C) (z_g C) (z_ok_sd hx) h22) (z_lt1 (z_ok_sd hx) (by decide)) (z_kc0 (z_ok_sd hx) _) rfl rfl cv_X6_92 (z_room hR ⟨Nat.le_of_ble_eq_true rfl, Nat.le_of_ble_eq_true rfl⟩) ⟨rfl, rfl⟩ rfl rfl (Nat.le_of_ble_eq_true rfl) dX6_isNoise_22 ?_
      refine z_iconst hx (n := 3) dX6_isNoise_25 ?_
      refine z_icmp_ne hx (tgt := 54) dX6_isNoise_26 (by decide) h (fun h => ⟨h, by decide⟩) (fun hc h => ?_) (fun hc h => ?_)
      · refine z_sub [0, 1, 3] rfl ?_
        exact w_X6_isNoise_b54 hx hn hR hq hK4 σ1 x1 x3 h
      · refine z_iload_n hx 1 dX6_isNoise_29 rfl ?_
        refine z_aload_n hx 0 dX6_isNoise_30 rfl ?_
        refine z_iload_n hx 3 dX6_isNoise_31 rfl ?_
        refine z_iconst hx (n := 1) dX6_isNoise_32 ?_
        obtain ⟨r4, σ3, h33, h⟩ := z_bind_some h
        refine z_calli hx (As := [.int (zi x3), .int (zi 1)]) (k := 0) (met_X6_of (z_l C) (z_g C) (z_ok_sd hx) h33) (z_lt1 (z_ok_sd hx) (by decide)) (z_kc0 (z_ok_sd hx) _) rfl rfl cv_X6_92 (z_room hR ⟨Nat.le_of_ble_eq_true rfl, Nat.le_of_ble_eq_true rfl⟩) ⟨rfl, rfl⟩ rfl rfl (Nat.le_of_ble_eq_true rfl) dX6_isNoise_33 ?_
        refine z_aload_n hx 0 dX6_isNoise_36 rfl ?_
        refine z_iload_n hx 3 dX6_isNoise_37 rfl ?_
        refine z_iconst hx (n := 2) dX6_isNoise_38 ?_
        obtain ⟨r6, σ5, h39, h⟩ := z_bind_some h
        refine z_calli hx (As := [.int (zi x3), .int (zi 2)]) (k := 0) (met_X6_of (z_l C) (z_g C) (z_ok_sd hx) h39) (z_lt1 (z_ok_sd hx) (by decide)) (z_kc0 (z_ok_sd hx) _) rfl rfl cv_X6_92 (z_room hR ⟨Nat.le_of_ble_eq_true rfl, Nat.le_of_ble_eq_true rfl⟩) ⟨rfl, rfl⟩ rfl rfl (Nat.le_of_ble_eq_true rfl) dX6_isNoise_39 ?_
        refine z_iconst hx (n := 1) dX6_isNoise_42 ?_
        refine z_isub hx dX6_isNoise_43 ?_
        obtain ⟨r8, σ7, h44, h⟩ := z_bind_some h
        refine z_calls hx (As := [.int (zi x1), .int (zi r4), .int (zi (r6 - 1))]) (met_X6_in (z_l C) (z_g C) (z_ok_sd hx) h44) cv_X6_41 (z_room hR ⟨Nat.le_of_ble_eq_true rfl, Nat.le_of_ble_eq_true rfl⟩) ⟨rfl, rfl⟩ rfl rfl (Nat.le_of_ble_eq_true rfl) dX6_isNoise_44 ?_
        refine z_if_eq hx (tgt := 54) dX6_isNoise_47 (by decide) h (fun h => h) (fun hc h => ?_) (fun hc h => ?_)
        · refine z_sub [0, 1, 3] rfl ?_
          exact w_X6_isNoise_b54 hx hn hR hq hK4 σ7 x1 x3 h
        · refine z_sub [0, 1, 3] rfl ?_
          exact w_X6_isNoise_b50 hx hn hR hq hK4 σ7 x1 x3 h

theorem w_X6_isNoise_l4 {C : zC} (hx : z_ok C cX6_isNoise RX6 1) (hn : z_nL C = 4) (hR : z_R C = rm_X6_isNoise) {rr : Int × zS} (hq : z_fin C (some .boolean) (z_QI (z_g C) rr.1 rr.2)) : ∀ (n : Nat) (σ : zS) (x1 : Int) (x2 : Int) (x3 : Int) (_ : f_X6_isNoise_l4 n σ x1 x2 x3 = some rr), z_W C σ 4 [(0, .ref (z_ad (z_g C) 0)), (1, .int (zi x1)), (2, .int (zi x2)), (3, .int (zi x3))] [] := by
  intro n
  induction n with
  | zero => intro σ x1 x2 x3 h; cases h
  | succ n ih =>
    intro σ x1 x2 x3 h
    exact w_X6_isNoise_b4 hx hn hR hq ih σ x1 x2 x3 h
theorem w_X6_isNoise {C : zC} (hx : z_ok C cX6_isNoise RX6 1) (hn : z_nL C = 4) (hR : z_R C = rm_X6_isNoise) {rr : Int × zS} (hq : z_fin C (some .boolean) (z_QI (z_g C) rr.1 rr.2)) (σ : zS) (x1 : Int) (h : f_X6_isNoise σ x1 = some rr) : z_W C σ 0 [(0, .ref (z_ad (z_g C) 0)), (1, .int (zi x1))] [] := by
  unfold f_X6_isNoise at h
  refine z_iconst hx (n := 0) dX6_isNoise_0 ?_
  refine z_istore_n hx hn (lv' := [(2, .int (zi 0)), (0, .ref (z_ad (z_g C) 0)), (1, .int (zi x1))]) dX6_isNoise_1 (by decide) rfl ?_
  refine z_iconst hx (n := 0) dX6_isNoise_2 ?_
  refine z_istore_n hx hn (lv' := [(3, .int (zi 0)), (2, .int (zi 0)), (0, .ref (z_ad (z_g C) 0)), (1, .int (zi x1))]) dX6_isNoise_3 (by decide) rfl ?_
  refine z_sub [2, 3, 1, 0] rfl ?_
  exact w_X6_isNoise_l4 hx hn hR hq z_fuel σ x1 0 0 h

theorem met_X6_isNoise (l : Launch) (g : zG) (hg : g.1 = 1) {σ : zS} {x1 : Int} {rr : Int × zS} (h : f_X6_isNoise σ x1 = some rr) : z_Met l yX6_isNoise cX6_isNoise 4 (some .boolean) rm_X6_isNoise g [.ref (z_ad (g) 0), .int (zi x1)] σ (z_QI g rr.1 rr.2) := by
  refine z_enter (own := RX6) (sd := 1) (lv0 := [(0, .ref (z_ad (g) 0)), (1, .int (zi x1))]) (by decide) rfl (Nat.le_of_ble_eq_true rfl) hg rfl (fun C hx hl hgC hR hn hq => ?_)
  subst hgC
  refine z_sub [0, 1] rfl ?_
  exact w_X6_isNoise hx hn hR hq σ x1 h
theorem dX6_plays_0 : decode cX6_plays 0 = .ok (.aload_n 0, 1) := by decide +kernel
theorem dX6_plays_1 : decode cX6_plays 1 = .ok (.invokevirtual 126, 3) := by decide +kernel
theorem dX6_plays_4 : decode cX6_plays 4 = .ok (.aload_n 0, 1) := by decide +kernel
theorem dX6_plays_5 : decode cX6_plays 5 = .ok (.iconst 0, 1) := by decide +kernel
theorem dX6_plays_6 : decode cX6_plays 6 = .ok (.putfield 135, 3) := by decide +kernel
theorem dX6_plays_9 : decode cX6_plays 9 = .ok (.aload_n 0, 1) := by decide +kernel
theorem dX6_plays_10 : decode cX6_plays 10 = .ok (.iconst 0, 1) := by decide +kernel
theorem dX6_plays_11 : decode cX6_plays 11 = .ok (.putfield 138, 3) := by decide +kernel
theorem dX6_plays_14 : decode cX6_plays 14 = .ok (.aload_n 0, 1) := by decide +kernel
theorem dX6_plays_15 : decode cX6_plays 15 = .ok (.iconst 0, 1) := by decide +kernel
theorem dX6_plays_16 : decode cX6_plays 16 = .ok (.putfield 141, 3) := by decide +kernel
theorem dX6_plays_19 : decode cX6_plays 19 = .ok (.iconst 0, 1) := by decide +kernel
theorem dX6_plays_20 : decode cX6_plays 20 = .ok (.istore_n 1, 1) := by decide +kernel
theorem dX6_plays_21 : decode cX6_plays 21 = .ok (.iload_n 1, 1) := by decide +kernel
theorem dX6_plays_22 : decode cX6_plays 22 = .ok (.aload_n 0, 1) := by decide +kernel
theorem dX6_plays_23 : decode cX6_plays 23 = .ok (.getfield 7, 3) := by decide +kernel
theorem dX6_plays_26 : decode cX6_plays 26 = .ok (.bipush 8, 2) := by decide +kernel
theorem dX6_plays_28 : decode cX6_plays 28 = .ok (.iaload, 1) := by decide +kernel
theorem dX6_plays_29 : decode cX6_plays 29 = .ok (.if_icmp .ge 62, 3) := by decide +kernel
theorem dX6_plays_32 : decode cX6_plays 32 = .ok (.aload_n 0, 1) := by decide +kernel
theorem dX6_plays_33 : decode cX6_plays 33 = .ok (.iload_n 1, 1) := by decide +kernel
theorem dX6_plays_34 : decode cX6_plays 34 = .ok (.iconst 1, 1) := by decide +kernel
theorem dX6_plays_35 : decode cX6_plays 35 = .ok (.invokevirtual 92, 3) := by decide +kernel
theorem dX6_plays_38 : decode cX6_plays 38 = .ok (.istore_n 2, 1) := by decide +kernel
theorem dX6_plays_39 : decode cX6_plays 39 = .ok (.iload_n 2, 1) := by decide +kernel
theorem dX6_plays_40 : decode cX6_plays 40 = .ok (.aload_n 0, 1) := by decide +kernel
theorem dX6_plays_41 : decode cX6_plays 41 = .ok (.iload_n 1, 1) := by decide +kernel
theorem dX6_plays_42 : decode cX6_plays 42 = .ok (.iconst 2, 1) := by decide +kernel
theorem dX6_plays_43 : decode cX6_plays 43 = .ok (.invokevirtual 92, 3) := by decide +kernel
theorem dX6_plays_46 : decode cX6_plays 46 = .ok (.if_icmp .ge 39, 3) := by decide +kernel
theorem dX6_plays_49 : decode cX6_plays 49 = .ok (.aload_n 0, 1) := by decide +kernel
theorem dX6_plays_50 : decode cX6_plays 50 = .ok (.iload_n 1, 1) := by decide +kernel
theorem dX6_plays_51 : decode cX6_plays 51 = .ok (.iconst 0, 1) := by decide +kernel
theorem dX6_plays_52 : decode cX6_plays 52 = .ok (.invokevirtual 92, 3) := by decide +kernel
theorem dX6_plays_55 : decode cX6_plays 55 = .ok (.iconst 2, 1) := by decide +kernel
theorem dX6_plays_56 : decode cX6_plays 56 = .ok (.if_icmp .ne 29, 3) := by decide +kernel
theorem dX6_plays_59 : decode cX6_plays 59 = .ok (.aload_n 0, 1) := by decide +kernel
theorem dX6_plays_60 : decode cX6_plays 60 = .ok (.getfield 34, 3) := by decide +kernel
theorem dX6_plays_63 : decode cX6_plays 63 = .ok (.aload_n 0, 1) := by decide +kernel
theorem dX6_plays_64 : decode cX6_plays 64 = .ok (.getfield 138, 3) := by decide +kernel
theorem dX6_plays_67 : decode cX6_plays 67 = .ok (.iload_n 2, 1) := by decide +kernel
theorem dX6_plays_68 : decode cX6_plays 68 = .ok (.iastore, 1) := by decide +kernel
theorem dX6_plays_69 : decode cX6_plays 69 = .ok (.aload_n 0, 1) := by decide +kernel
theorem dX6_plays_70 : decode cX6_plays 70 = .ok (.dup, 1) := by decide +kernel
theorem dX6_plays_71 : decode cX6_plays 71 = .ok (.getfield 138, 3) := by decide +kernel
theorem dX6_plays_74 : decode cX6_plays 74 = .ok (.iconst 1, 1) := by decide +kernel
theorem dX6_plays_75 : decode cX6_plays 75 = .ok (.iadd, 1) := by decide +kernel
theorem dX6_plays_76 : decode cX6_plays 76 = .ok (.putfield 138, 3) := by decide +kernel
theorem dX6_plays_79 : decode cX6_plays 79 = .ok (.iinc 2 1, 3) := by decide +kernel
theorem dX6_plays_82 : decode cX6_plays 82 = .ok (.goto (-43), 3) := by decide +kernel
theorem dX6_plays_85 : decode cX6_plays 85 = .ok (.iinc 1 1, 3) := by decide +kernel
theorem dX6_plays_88 : decode cX6_plays 88 = .ok (.goto (-67), 3) := by decide +kernel
theorem dX6_plays_91 : decode cX6_plays 91 = .ok (.iconst 0, 1) := by decide +kernel
theorem dX6_plays_92 : decode cX6_plays 92 = .ok (.istore_n 1, 1) := by decide +kernel
theorem dX6_plays_93 : decode cX6_plays 93 = .ok (.iconst 0, 1) := by decide +kernel
theorem dX6_plays_94 : decode cX6_plays 94 = .ok (.istore_n 2, 1) := by decide +kernel
theorem dX6_plays_95 : decode cX6_plays 95 = .ok (.iload_n 2, 1) := by decide +kernel
theorem dX6_plays_96 : decode cX6_plays 96 = .ok (.aload_n 0, 1) := by decide +kernel
theorem dX6_plays_97 : decode cX6_plays 97 = .ok (.getfield 108, 3) := by decide +kernel
theorem dX6_plays_100 : decode cX6_plays 100 = .ok (.if_icmp .gt 116, 3) := by decide +kernel
theorem dX6_plays_103 : decode cX6_plays 103 = .ok (.iload_n 2, 1) := by decide +kernel
theorem dX6_plays_104 : decode cX6_plays 104 = .ok (.aload_n 0, 1) := by decide +kernel
theorem dX6_plays_105 : decode cX6_plays 105 = .ok (.getfield 108, 3) := by decide +kernel
theorem dX6_plays_108 : decode cX6_plays 108 = .ok (.if_icmp .ge 14, 3) := by decide +kernel
theorem dX6_plays_111 : decode cX6_plays 111 = .ok (.aload_n 0, 1) := by decide +kernel
theorem dX6_plays_112 : decode cX6_plays 112 = .ok (.getfield 25, 3) := by decide +kernel
theorem dX6_plays_115 : decode cX6_plays 115 = .ok (.iconst 5, 1) := by decide +kernel
theorem dX6_plays_116 : decode cX6_plays 116 = .ok (.iload_n 2, 1) := by decide +kernel
theorem dX6_plays_117 : decode cX6_plays 117 = .ok (.imul, 1) := by decide +kernel
theorem dX6_plays_118 : decode cX6_plays 118 = .ok (.iaload, 1) := by decide +kernel
theorem dX6_plays_119 : decode cX6_plays 119 = .ok (.goto 10, 3) := by decide +kernel
theorem dX6_plays_122 : decode cX6_plays 122 = .ok (.aload_n 0, 1) := by decide +kernel
theorem dX6_plays_123 : decode cX6_plays 123 = .ok (.getfield 7, 3) := by decide +kernel
theorem dX6_plays_126 : decode cX6_plays 126 = .ok (.bipush 7, 2) := by decide +kernel
theorem dX6_plays_128 : decode cX6_plays 128 = .ok (.iaload, 1) := by decide +kernel
theorem dX6_plays_129 : decode cX6_plays 129 = .ok (.istore_n 3, 1) := by decide +kernel
theorem dX6_plays_130 : decode cX6_plays 130 = .ok (.iload_n 1, 1) := by decide +kernel
theorem dX6_plays_131 : decode cX6_plays 131 = .ok (.iload_n 3, 1) := by decide +kernel
theorem dX6_plays_132 : decode cX6_plays 132 = .ok (.if_icmp .ge 45, 3) := by decide +kernel
theorem dX6_plays_135 : decode cX6_plays 135 = .ok (.aload_n 0, 1) := by decide +kernel
theorem dX6_plays_136 : decode cX6_plays 136 = .ok (.iload_n 1, 1) := by decide +kernel
theorem dX6_plays_137 : decode cX6_plays 137 = .ok (.aload_n 0, 1) := by decide +kernel
theorem dX6_plays_138 : decode cX6_plays 138 = .ok (.iload_n 1, 1) := by decide +kernel
theorem dX6_plays_139 : decode cX6_plays 139 = .ok (.invokevirtual 148, 3) := by decide +kernel
theorem dX6_plays_142 : decode cX6_plays 142 = .ok (.ifCond .eq 17, 3) := by decide +kernel
theorem dX6_plays_145 : decode cX6_plays 145 = .ok (.aload_n 0, 1) := by decide +kernel
theorem dX6_plays_146 : decode cX6_plays 146 = .ok (.getfield 7, 3) := by decide +kernel
theorem dX6_plays_149 : decode cX6_plays 149 = .ok (.bipush 10, 2) := by decide +kernel
theorem dX6_plays_151 : decode cX6_plays 151 = .ok (.iload_n 1, 1) := by decide +kernel
theorem dX6_plays_152 : decode cX6_plays 152 = .ok (.iadd, 1) := by decide +kernel
theorem dX6_plays_153 : decode cX6_plays 153 = .ok (.iaload, 1) := by decide +kernel
theorem dX6_plays_154 : decode cX6_plays 154 = .ok (.iconst 2, 1) := by decide +kernel
theorem dX6_plays_155 : decode cX6_plays 155 = .ok (.idiv, 1) := by decide +kernel
theorem dX6_plays_156 : decode cX6_plays 156 = .ok (.goto 12, 3) := by decide +kernel
theorem dX6_plays_159 : decode cX6_plays 159 = .ok (.aload_n 0, 1) := by decide +kernel
theorem dX6_plays_160 : decode cX6_plays 160 = .ok (.getfield 7, 3) := by decide +kernel
theorem dX6_plays_163 : decode cX6_plays 163 = .ok (.bipush 10, 2) := by decide +kernel
theorem dX6_plays_165 : decode cX6_plays 165 = .ok (.iload_n 1, 1) := by decide +kernel
theorem dX6_plays_166 : decode cX6_plays 166 = .ok (.iadd, 1) := by decide +kernel
theorem dX6_plays_167 : decode cX6_plays 167 = .ok (.iaload, 1) := by decide +kernel
theorem dX6_plays_168 : decode cX6_plays 168 = .ok (.invokevirtual 144, 3) := by decide +kernel
theorem dX6_plays_171 : decode cX6_plays 171 = .ok (.iinc 1 1, 3) := by decide +kernel
theorem dX6_plays_174 : decode cX6_plays 174 = .ok (.goto (-44), 3) := by decide +kernel
theorem dX6_plays_177 : decode cX6_plays 177 = .ok (.iload_n 2, 1) := by decide +kernel
theorem dX6_plays_178 : decode cX6_plays 178 = .ok (.aload_n 0, 1) := by decide +kernel
theorem dX6_plays_179 : decode cX6_plays 179 = .ok (.getfield 108, 3) := by decide +kernel
theorem dX6_plays_182 : decode cX6_plays 182 = .ok (.if_icmp .ge 28, 3) := by decide +kernel
theorem dX6_plays_185 : decode cX6_plays 185 = .ok (.aload_n 0, 1) := by decide +kernel
theorem dX6_plays_186 : decode cX6_plays 186 = .ok (.aload_n 0, 1) := by decide +kernel
theorem dX6_plays_187 : decode cX6_plays 187 = .ok (.getfield 25, 3) := by decide +kernel
theorem dX6_plays_190 : decode cX6_plays 190 = .ok (.iconst 5, 1) := by decide +kernel
theorem dX6_plays_191 : decode cX6_plays 191 = .ok (.iload_n 2, 1) := by decide +kernel
theorem dX6_plays_192 : decode cX6_plays 192 = .ok (.imul, 1) := by decide +kernel
theorem dX6_plays_193 : decode cX6_plays 193 = .ok (.iconst 2, 1) := by decide +kernel
theorem dX6_plays_194 : decode cX6_plays 194 = .ok (.iadd, 1) := by decide +kernel
theorem dX6_plays_195 : decode cX6_plays 195 = .ok (.iaload, 1) := by decide +kernel
theorem dX6_plays_196 : decode cX6_plays 196 = .ok (.invokevirtual 151, 3) := by decide +kernel
theorem dX6_plays_199 : decode cX6_plays 199 = .ok (.aload_n 0, 1) := by decide +kernel
theorem dX6_plays_200 : decode cX6_plays 200 = .ok (.getfield 25, 3) := by decide +kernel
theorem dX6_plays_203 : decode cX6_plays 203 = .ok (.iconst 5, 1) := by decide +kernel
theorem dX6_plays_204 : decode cX6_plays 204 = .ok (.iload_n 2, 1) := by decide +kernel
theorem dX6_plays_205 : decode cX6_plays 205 = .ok (.imul, 1) := by decide +kernel
theorem dX6_plays_206 : decode cX6_plays 206 = .ok (.iconst 1, 1) := by decide +kernel
theorem dX6_plays_207 : decode cX6_plays 207 = .ok (.iadd, 1) := by decide +kernel
theorem dX6_plays_208 : decode cX6_plays 208 = .ok (.iaload, 1) := by decide +kernel
theorem dX6_plays_209 : decode cX6_plays 209 = .ok (.istore_n 1, 1) := by decide +kernel
theorem dX6_plays_210 : decode cX6_plays 210 = .ok (.iinc 2 1, 3) := by decide +kernel
theorem dX6_plays_213 : decode cX6_plays 213 = .ok (.goto (-118), 3) := by decide +kernel
theorem dX6_plays_216 : decode cX6_plays 216 = .ok (.return_, 1) := by decide +kernel
abbrev rm_X6_plays : Room := { frames := 6, cells := 0, slots := 0, locals := 139 }
theorem w_X6_plays_b210 {C : zC} (hx : z_ok C cX6_plays RX6 1) (hn : z_nL C = 4) (hR : z_R C = rm_X6_plays) {rr : Unit × zS} (hq : z_fin C none (z_QV (z_g C) rr.2)) {K95 : zS → Int → Int → Option (Unit × zS)} (hK95 : ∀ (σ : zS) (x1 : Int) (x2 : Int) , K95 σ x1 x2 = some rr → z_W C σ 95 [(0, .ref (z_ad (z_g C) 0)), (1, .int (zi x1)), (2, .int (zi x2))] []) (σ : zS) (x1 : Int) (x2 : Int) (h : f_X6_plays_b210 K95 σ x1 x2 = some rr) : z_W C σ 210 [(0, .ref (z_ad (z_g C) 0)), (1, .int (zi x1)), (2, .int (zi x2))] [] := by
  unfold f_X6_plays_b210 at h
  refine z_iinc hx hn 2 (lv' := [(2, .int (zi (x2 + 1))), (0, .ref (z_ad (z_g C) 0)), (1, .int (zi x1))]) dX6_plays_210 rfl (by decide) rfl ?_
  refine z_goto hx (tgt := 95) dX6_plays_213 (by decide) ?_
  refine z_sub [1, 2, 0] rfl ?_
  exact hK95 σ x1 (x2 + 1) h

theorem w_X6_plays_b168 {C : zC} (hx : z_ok C cX6_plays RX6 1) (hn : z_nL C = 4) (hR : z_R C = rm_X6_plays) {rr : Unit × zS} (hq : z_fin C none (z_QV (z_g C) rr.2)) {K95 : zS → Int → Int → Option (Unit × zS)} (hK95 : ∀ (σ : zS) (x1 : Int) (x2 : Int) , K95 σ x1 x2 = some rr → z_W C σ 95 [(0, .ref (z_ad (z_g C) 0)), (1, .int (zi x1)), (2, .int (zi x2))] []) {K130 : zS → Int → Int → Int → Option (Unit × zS)} (hK130 : ∀ (σ : zS) (x1 : Int) (x2 : Int) (x3 : Int) , K130 σ x1 x2 x3 = some rr → z_W C σ 130 [(0, .ref (z_ad (z_g C) 0)), (1, .int (zi x1)), (2, .int (zi x2)), (3, .int (zi x3))] []) (σ : zS) (x1 : Int) (x2 : Int) (x3 : Int) (s1 : Int) (s2 : Int) (h : f_X6_plays_b168 K95 K130 σ x1 x2 x3 s1 s2 = some rr) : z_W C σ 168 [(0, .ref (z_ad (z_g C) 0)), (1, .int (zi x1)), (2, .int (zi x2)), (3, .int (zi x3))] [.int (zi s2), .int (zi s1), .ref (z_ad (z_g C) 0)] := by
  unfold f_X6_plays_b168 at h
  obtain ⟨⟨⟩, σ1, h168, h⟩ := z_bind_some h
  refine z_callv hx (As := [.int (zi s1), .int (zi s2)]) (k := 0) (met_X6_hears (z_l C) (z_g C) (z_ok_sd hx) h168) (z_lt1 (z_ok_sd hx) (by decide)) (z_kc0 (z_ok_sd hx) _) rfl rfl cv_X6_144 (z_room hR ⟨Nat.le_of_ble_eq_true rfl, Nat.le_of_ble_eq_true rfl⟩) ⟨rfl, rfl⟩ rfl rfl (Nat.le_of_ble_eq_true rfl) dX6_plays_168 ?_
  refine z_iinc hx hn 1 (lv' := [(1, .int (zi (x1 + 1))), (0, .ref (z_ad (z_g C) 0)), (2, .int (zi x2)), (3, .int (zi x3))]) dX6_plays_171 rfl (by decide) rfl ?_
  refine z_goto hx (tgt := 130) dX6_plays_174 (by decide) ?_
  refine z_sub [1, 0, 2, 3] rfl ?_
  exact hK130 σ1 (x1 + 1) x2 x3 h

theorem w_X6_plays_b130 {C : zC} (hx : z_ok C cX6_plays RX6 1) (hn : z_nL C = 4) (hR : z_R C = rm_X6_plays) {rr : Unit × zS} (hq : z_fin C none (z_QV (z_g C) rr.2)) {K95 : zS → Int → Int → Option (Unit × zS)} (hK95 : ∀ (σ : zS) (x1 : Int) (x2 : Int) , K95 σ x1 x2 = some rr → z_W C σ 95 [(0, .ref (z_ad (z_g C) 0)), (1, .int (zi x1)), (2, .int (zi x2))] []) {K130 : zS → Int → Int → Int → Option (Unit × zS)} (hK130 : ∀ (σ : zS) (x1 : Int) (x2 : Int) (x3 : Int) , K130 σ x1 x2 x3 = some rr → z_W C σ 130 [(0, .ref (z_ad (z_g C) 0)), (1, .int (zi x1)), (2, .int (zi x2)), (3, .int (zi x3))] []) (σ : zS) (x1 : Int) (x2 : Int) (x3 : Int) (h : f_X6_plays_b130 K95 K130 σ x1 x2 x3 = some rr) : z_W C σ 130 [(0, .ref (z_ad (z_g C) 0)), (1, .int (zi x1)), (2, .int (zi x2)), (3, .int (zi x3))] [] := by
  unfold f_X6_plays_b130 at h
  refine z_iload_n hx 1 dX6_plays_130 rfl ?_
  refine z_iload_n hx 3 dX6_plays_131 rfl ?_
  refine z_icmp_ge hx (tgt := 177) dX6_plays_132 (by decide) h (fun h => h) (fun hc h => ?_) (fun hc h => ?_)
  · refine z_iload_n hx 2 dX6_plays_177 rfl ?_
    refine z_aload_n hx 0 dX6_plays_178 rfl ?_
    refine gf_X6_cutMany hx wf_X6_108 dX6_plays_179 ?_
    refine z_icmp_ge hx (tgt := 210) dX6_plays_182 (by decide) h (fun h => h) (fun hc h => ?_) (fun hc h => ?_)
    · refine z_sub [0, 1, 2] rfl ?_
      exact w_X6_plays_b210 hx hn hR hq hK95 σ x1 x2 h
    · refine z_aload_n hx 0 dX6_plays_185 rfl ?_
      refine z_aload_n hx 0 dX6_plays_186 rfl ?_
      refine gf_X6_cut hx wf_X6_25 dX6_plays_187 ?_
      refine z_iconst hx (n := 5) dX6_plays_190 ?_
      refine z_iload_n hx 2 dX6_plays_191 rfl ?_
      refine z_imul hx dX6_plays_192 ?_
      refine z_iconst hx (n := 2) dX6_plays_193 ?_
      refine z_iadd hx dX6_plays_194 ?_
      refine z_iald hx (n := 100) (z_lt1 (z_ok_sd hx) (by decide)) (z_kc6 (z_ok_sd hx) _) rfl (by decide) dX6_plays_195 h (fun h => ?_)
      obtain ⟨⟨⟩, σ1, h196, h⟩ := z_bind_some h
      refine z_callv hx (As := [.int (zi (σ 6 ((5 * x2) + 2)))]) (k := 0) (met_X6_pauses (z_l C) (z_g C) (z_ok_sd hx) h196) (z_lt1 (z_ok_sd hx) (by decide)) (z_kc0 (z_ok_sd hx) _) rfl rfl cv_X6_151 (z_room hR ⟨Nat.le_of_ble_eq_true rfl, Nat.le_of_ble_eq_true rfl⟩) ⟨rfl, rfl⟩ rfl rfl (Nat.le_of_ble_eq_true rfl) dX6_plays_196 ?_
      refine z_aload_n hx 0 dX6_plays_199 rfl ?_
      refine gf_X6_cut hx wf_X6_25 dX6_plays_200 ?_
      refine z_iconst hx (n := 5) dX6_plays_203 ?_
      refine z_iload_n hx 2 dX6_plays_204 rfl ?_
      refine z_imul hx dX6_plays_205 ?_
      refine z_iconst hx (n := 1) dX6_plays_206 ?_
      refine z_iadd hx dX6_plays_207 ?_
      refine z_iald hx (n := 100) (z_lt1 (z_ok_sd hx) (by decide)) (z_kc6 (z_ok_sd hx) _) rfl (by decide) dX6_plays_208 h (fun h => ?_)
      refine z_istore_n hx hn (lv' := [(1, .int (zi (σ1 6 ((5 * x2) + 1)))), (0, .ref (z_ad (z_g C) 0)), (2, .int (zi x2)), (3, .int (zi x3))]) dX6_plays_209 (by decide) rfl ?_
      refine z_sub [1, 0, 2] rfl ?_
      exact w_X6_plays_b210 hx hn hR hq hK95 σ1 (σ1 6 ((5 * x2) + 1)) x2 h
  · refine z_aload_n hx 0 dX6_plays_135 rfl ?_
    refine z_iload_n hx 1 dX6_plays_136 rfl ?_
    refine z_aload_n hx 0 dX6_plays_137 rfl ?_
    refine z_iload_n hx 1 dX6_plays_138 rfl ?_
    obtain ⟨r3, σ2, h139, h⟩ := z_bind_some h
    refine z_calli hx (As := [.int (zi x1)]) (k := 0) (met_X6_isNoise (z_l C) (z_g C) (z_ok_sd hx) h139) (z_lt1 (z_ok_sd hx) (by decide)) (z_kc0 (z_ok_sd hx) _) rfl rfl cv_X6_148 (z_room hR ⟨Nat.le_of_ble_eq_true rfl, Nat.le_of_ble_eq_true rfl⟩) ⟨rfl, rfl⟩ rfl rfl (Nat.le_of_ble_eq_true rfl) dX6_plays_139 ?_
    refine z_if_eq hx (tgt := 159) dX6_plays_142 (by decide) h (fun h => h) (fun hc h => ?_) (fun hc h => ?_)
    · refine z_aload_n hx 0 dX6_plays_159 rfl ?_
      refine gf_X6_v hx wf_X6_7 dX6_plays_160 ?_
      refine z_bipush hx (n := 10) dX6_plays_163 rfl ?_
      refine z_iload_n hx 1 dX6_plays_165 rfl ?_
      refine z_iadd hx dX6_plays_166 ?_
      refine z_iald hx (n := 320) (z_lt1 (z_ok_sd hx) (by decide)) (z_kc1 (z_ok_sd hx) _) rfl (by decide) dX6_plays_167 h (fun h => ?_)
      refine z_sub [0, 1, 2, 3] rfl ?_
      exact w_X6_plays_b168 hx hn hR hq hK95 hK130 σ2 x1 x2 x3 x1 (σ2 1 (10 + x1)) h
    · refine z_aload_n hx 0 dX6_plays_145 rfl ?_
      refine gf_X6_v hx wf_X6_7 dX6_plays_146 ?_
      refine z_bipush hx (n := 10) dX6_plays_149 rfl ?_
      refine z_iload_n hx 1 dX6_plays_151 rfl ?_
      refine z_iadd hx dX6_plays_152 ?_
      refine z_iald hx (n := 320) (z_lt1 (z_ok_sd hx) (by decide)) (z_kc1 (z_ok_sd hx) _) rfl (by decide) dX6_plays_153 h (fun h => ?_)
      refine z_iconst hx (n := 2) dX6_plays_154 ?_
      refine z_idiv hx dX6_plays_155 h (fun h => ?_)
      refine z_goto hx (tgt := 168) dX6_plays_156 (by decide) ?_
      refine z_sub [0, 1, 2, 3] rfl ?_
      exact w_X6_plays_b168 hx hn hR hq hK95 hK130 σ2 x1 x2 x3 x1 ((σ2 1 (10 + x1)).tdiv 2) h

theorem w_X6_plays_l130 {C : zC} (hx : z_ok C cX6_plays RX6 1) (hn : z_nL C = 4) (hR : z_R C = rm_X6_plays) {rr : Unit × zS} (hq : z_fin C none (z_QV (z_g C) rr.2)) {K95 : zS → Int → Int → Option (Unit × zS)} (hK95 : ∀ (σ : zS) (x1 : Int) (x2 : Int) , K95 σ x1 x2 = some rr → z_W C σ 95 [(0, .ref (z_ad (z_g C) 0)), (1, .int (zi x1)), (2, .int (zi x2))] []) : ∀ (n : Nat) (σ : zS) (x1 : Int) (x2 : Int) (x3 : Int) (_ : f_X6_plays_l130 K95 n σ x1 x2 x3 = some rr), z_W C σ 130 [(0, .ref (z_ad (z_g C) 0)), (1, .int (zi x1)), (2, .int (zi x2)), (3, .int (zi x3))] [] := by
  intro n
  induction n with
  | zero => intro σ x1 x2 x3 h; cases h
  | succ n ih =>
    intro σ x1 x2 x3 h
    exact w_X6_plays_b130 hx hn hR hq hK95 ih σ x1 x2 x3 h
theorem w_X6_plays_b129 {C : zC} (hx : z_ok C cX6_plays RX6 1) (hn : z_nL C = 4) (hR : z_R C = rm_X6_plays) {rr : Unit × zS} (hq : z_fin C none (z_QV (z_g C) rr.2)) {K95 : zS → Int → Int → Option (Unit × zS)} (hK95 : ∀ (σ : zS) (x1 : Int) (x2 : Int) , K95 σ x1 x2 = some rr → z_W C σ 95 [(0, .ref (z_ad (z_g C) 0)), (1, .int (zi x1)), (2, .int (zi x2))] []) (σ : zS) (x1 : Int) (x2 : Int) (s0 : Int) (h : f_X6_plays_b129 K95 σ x1 x2 s0 = some rr) : z_W C σ 129 [(0, .ref (z_ad (z_g C) 0)), (1, .int (zi x1)), (2, .int (zi x2))] [.int (zi s0)] := by
  unfold f_X6_plays_b129 at h
  refine z_istore_n hx hn (lv' := [(3, .int (zi s0)), (0, .ref (z_ad (z_g C) 0)), (1, .int (zi x1)), (2, .int (zi x2))]) dX6_plays_129 (by decide) rfl ?_
  refine z_sub [1, 2, 3, 0] rfl ?_
  exact w_X6_plays_l130 hx hn hR hq hK95 z_fuel σ x1 x2 s0 h

theorem w_X6_plays_b95 {C : zC} (hx : z_ok C cX6_plays RX6 1) (hn : z_nL C = 4) (hR : z_R C = rm_X6_plays) {rr : Unit × zS} (hq : z_fin C none (z_QV (z_g C) rr.2)) {K95 : zS → Int → Int → Option (Unit × zS)} (hK95 : ∀ (σ : zS) (x1 : Int) (x2 : Int) , K95 σ x1 x2 = some rr → z_W C σ 95 [(0, .ref (z_ad (z_g C) 0)), (1, .int (zi x1)), (2, .int (zi x2))] []) (σ : zS) (x1 : Int) (x2 : Int) (h : f_X6_plays_b95 K95 σ x1 x2 = some rr) : z_W C σ 95 [(0, .ref (z_ad (z_g C) 0)), (1, .int (zi x1)), (2, .int (zi x2))] [] := by
  unfold f_X6_plays_b95 at h
  refine z_iload_n hx 2 dX6_plays_95 rfl ?_
  refine z_aload_n hx 0 dX6_plays_96 rfl ?_
  refine gf_X6_cutMany hx wf_X6_108 dX6_plays_97 ?_
  refine z_icmp_gt hx (tgt := 216) dX6_plays_100 (by decide) h (fun h => h) (fun hc h => ?_) (fun hc h => ?_)
  · cases h
    exact z_vret hx hq dX6_plays_216
  · refine z_iload_n hx 2 dX6_plays_103 rfl ?_
    refine z_aload_n hx 0 dX6_plays_104 rfl ?_
    refine gf_X6_cutMany hx wf_X6_108 dX6_plays_105 ?_
    refine z_icmp_ge hx (tgt := 122) dX6_plays_108 (by decide) h (fun h => h) (fun hc h => ?_) (fun hc h => ?_)
    · refine z_aload_n hx 0 dX6_plays_122 rfl ?_
      refine gf_X6_v hx wf_X6_7 dX6_plays_123 ?_
      refine z_bipush hx (n := 7) dX6_plays_126 rfl ?_
      refine z_iald hx (n := 320) (z_lt1 (z_ok_sd hx) (by decide)) (z_kc1 (z_ok_sd hx) _) rfl (by decide) dX6_plays_128 h (fun h => ?_)
      refine z_sub [0, 1, 2] rfl ?_
      exact w_X6_plays_b129 hx hn hR hq hK95 σ x1 x2 (σ 1 7) h
    · refine z_aload_n hx 0 dX6_plays_111 rfl ?_
      refine gf_X6_cut hx wf_X6_25 dX6_plays_112 ?_
      refine z_iconst hx (n := 5) dX6_plays_115 ?_
      refine z_iload_n hx 2 dX6_plays_116 rfl ?_
      refine z_imul hx dX6_plays_117 ?_
      refine z_iald hx (n := 100) (z_lt1 (z_ok_sd hx) (by decide)) (z_kc6 (z_ok_sd hx) _) rfl (by decide) dX6_plays_118 h (fun h => ?_)
      refine z_goto hx (tgt := 129) dX6_plays_119 (by decide) ?_
      refine z_sub [0, 1, 2] rfl ?_
      exact w_X6_plays_b129 hx hn hR hq hK95 σ x1 x2 (σ 6 (5 * x2)) h

theorem w_X6_plays_l95 {C : zC} (hx : z_ok C cX6_plays RX6 1) (hn : z_nL C = 4) (hR : z_R C = rm_X6_plays) {rr : Unit × zS} (hq : z_fin C none (z_QV (z_g C) rr.2)) : ∀ (n : Nat) (σ : zS) (x1 : Int) (x2 : Int) (_ : f_X6_plays_l95 n σ x1 x2 = some rr), z_W C σ 95 [(0, .ref (z_ad (z_g C) 0)), (1, .int (zi x1)), (2, .int (zi x2))] [] := by
  intro n
  induction n with
  | zero => intro σ x1 x2 h; cases h
  | succ n ih =>
    intro σ x1 x2 h
    exact w_X6_plays_b95 hx hn hR hq ih σ x1 x2 h
theorem w_X6_plays_b85 {C : zC} (hx : z_ok C cX6_plays RX6 1) (hn : z_nL C = 4) (hR : z_R C = rm_X6_plays) {rr : Unit × zS} (hq : z_fin C none (z_QV (z_g C) rr.2)) {K21 : zS → Int → Option (Unit × zS)} (hK21 : ∀ (σ : zS) (x1 : Int) , K21 σ x1 = some rr → z_W C σ 21 [(0, .ref (z_ad (z_g C) 0)), (1, .int (zi x1))] []) (σ : zS) (x1 : Int) (h : f_X6_plays_b85 K21 σ x1 = some rr) : z_W C σ 85 [(0, .ref (z_ad (z_g C) 0)), (1, .int (zi x1))] [] := by
  unfold f_X6_plays_b85 at h
  refine z_iinc hx hn 1 (lv' := [(1, .int (zi (x1 + 1))), (0, .ref (z_ad (z_g C) 0))]) dX6_plays_85 rfl (by decide) rfl ?_
  refine z_goto hx (tgt := 21) dX6_plays_88 (by decide) ?_
  refine z_sub [1, 0] rfl ?_
  exact hK21 σ (x1 + 1) h

theorem w_X6_plays_b39 {C : zC} (hx : z_ok C cX6_plays RX6 1) (hn : z_nL C = 4) (hR : z_R C = rm_X6_plays) {rr : Unit × zS} (hq : z_fin C none (z_QV (z_g C) rr.2)) {K21 : zS → Int → Option (Unit × zS)} (hK21 : ∀ (σ : zS) (x1 : Int) , K21 σ x1 = some rr → z_W C σ 21 [(0, .ref (z_ad (z_g C) 0)), (1, .int (zi x1))] []) {K39 : zS → Int → Int → Option (Unit × zS)} (hK39 : ∀ (σ : zS) (x1 : Int) (x2 : Int) , K39 σ x1 x2 = some rr → z_W C σ 39 [(0, .ref (z_ad (z_g C) 0)), (1, .int (zi x1)), (2, .int (zi x2))] []) (σ : zS) (x1 : Int) (x2 : Int) (h : f_X6_plays_b39 K21 K39 σ x1 x2 = some rr) : z_W C σ 39 [(0, .ref (z_ad (z_g C) 0)), (1, .int (zi x1)), (2, .int (zi x2))] [] := by
  unfold f_X6_plays_b39 at h
  refine z_iload_n hx 2 dX6_plays_39 rfl ?_
  refine z_aload_n hx 0 dX6_plays_40 rfl ?_
  refine z_iload_n hx 1 dX6_plays_41 rfl ?_
  refine z_iconst hx (n := 2) dX6_plays_42 ?_
  obtain ⟨r2, σ1, h43, h⟩ := z_bind_some h
  refine z_calli hx (As := [.int (zi x1), .int (zi 2)]) (k := 0) (met_X6_of (z_l C) (z_g C) (z_ok_sd hx) h43) (z_lt1 (z_ok_sd hx) (by decide)) (z_kc0 (z_ok_sd hx) _) rfl rfl cv_X6_92 (z_room hR ⟨Nat.le_of_ble_eq_true rfl, Nat.le_of_ble_eq_true rfl⟩) ⟨rfl, rfl⟩ rfl rfl (Nat.le_of_ble_eq_true rfl) dX6_plays_43 ?_
  refine z_icmp_ge hx (tgt := 85) dX6_plays_46 (by decide) h (fun h => h) (fun hc h => ?_) (fun hc h => ?_)
  · refine z_sub [0, 1] rfl ?_
    exact w_X6_plays_b85 hx hn hR hq hK21 σ1 x1 h
  · refine z_aload_n hx 0 dX6_plays_49 rfl ?_
    refine z_iload_n hx 1 dX6_plays_50 rfl ?_
    refine z_iconst hx (n := 0) dX6_plays_51 ?_
    obtain ⟨r4, σ3, h52, h⟩ := z_bind_some h
    refine z_calli hx (As := [.int (zi x1), .int (zi 0)]) (k := 0) (met_X6_of (z_l C) (z_g C) (z_ok_sd hx) h52) (z_lt1 (z_ok_sd hx) (by decide)) (z_kc0 (z_ok_sd hx) _) rfl rfl cv_X6_92 (z_room hR ⟨Nat.le_of_ble_eq_true rfl, Nat.le_of_ble_eq_true rfl⟩) ⟨rfl, rfl⟩ rfl rfl (Nat.le_of_ble_eq_true rfl) dX6_plays_52 ?_
    refine z_iconst hx (n := 2) dX6_plays_55 ?_
    refine z_icmp_ne hx (tgt := 85) dX6_plays_56 (by decide) h (fun h => ⟨h, by decide⟩) (fun hc h => ?_) (fun hc h => ?_)
    · refine z_sub [0, 1] rfl ?_
      exact w_X6_plays_b85 hx hn hR hq hK21 σ3 x1 h
    · refine z_aload_n hx 0 dX6_plays_59 rfl ?_
      refine gf_X6_room hx wf_X6_34 dX6_plays_60 ?_
      refine z_aload_n hx 0 dX6_plays_63 rfl ?_
      refine gf_X6_roomMany hx wf_X6_138 dX6_plays_64 ?_
      refine z_iload_n hx 2 dX6_plays_67 rfl ?_
      refine z_iast hx (n := 200) (z_lt1 (z_ok_sd hx) (by decide)) (z_kc9 (z_ok_sd hx)) rfl (by decide) dX6_plays_68 h (fun σ5 h => ?_)
      refine z_aload_n hx 0 dX6_plays_69 rfl ?_
      refine z_dup hx dX6_plays_70 rfl ?_
      refine gf_X6_roomMany hx wf_X6_138 dX6_plays_71 ?_
      refine z_iconst hx (n := 1) dX6_plays_74 ?_
      refine z_iadd hx dX6_plays_75 ?_
      refine pf_X6_roomMany hx wf_X6_138 dX6_plays_76 h (fun σ6 h => ?_)
      refine z_iinc hx hn 2 (lv' := [(2, .int (zi (x2 + 1))), (0, .ref (z_ad (z_g C) 0)), (1, .int (zi x1))]) dX6_plays_79 rfl (by decide) rfl ?_
      refine z_goto hx (tgt := 39) dX6_plays_82 (by decide) ?_
      refine z_sub [1, 2, 0] rfl ?_
      exact hK39 σ6 x1 (x2 + 1) h

theorem w_X6_plays_l39 {C : zC} (hx : z_ok C cX6_plays RX6 1) (hn : z_nL C = 4) (hR : z_R C = rm_X6_plays) {rr : Unit × zS} (hq : z_fin C none (z_QV (z_g C) rr.2)) {K21 : zS → Int → Option (Unit × zS)} (hK21 : ∀ (σ : zS) (x1 : Int) , K21 σ x1 = some rr → z_W C σ 21 [(0, .ref (z_ad (z_g C) 0)), (1, .int (zi x1))] []) : ∀ (n : Nat) (σ : zS) (x1 : Int) (x2 : Int) (_ : f_X6_plays_l39 K21 n σ x1 x2 = some rr), z_W C σ 39 [(0, .ref (z_ad (z_g C) 0)), (1, .int (zi x1)), (2, .int (zi x2))] [] := by
  intro n
  induction n with
  | zero => intro σ x1 x2 h; cases h
  | succ n ih =>
    intro σ x1 x2 h
    exact w_X6_plays_b39 hx hn hR hq hK21 ih σ x1 x2 h
theorem w_X6_plays_b21 {C : zC} (hx : z_ok C cX6_plays RX6 1) (hn : z_nL C = 4) (hR : z_R C = rm_X6_plays) {rr : Unit × zS} (hq : z_fin C none (z_QV (z_g C) rr.2)) {K21 : zS → Int → Option (Unit × zS)} (hK21 : ∀ (σ : zS) (x1 : Int) , K21 σ x1 = some rr → z_W C σ 21 [(0, .ref (z_ad (z_g C) 0)), (1, .int (zi x1))] []) (σ : zS) (x1 : Int) (h : f_X6_plays_b21 K21 σ x1 = some rr) : z_W C σ 21 [(0, .ref (z_ad (z_g C) 0)), (1, .int (zi x1))] [] := by
  unfold f_X6_plays_b21 at h
  refine z_iload_n hx 1 dX6_plays_21 rfl ?_
  refine z_aload_n hx 0 dX6_plays_22 rfl ?_
  refine gf_X6_v hx wf_X6_7 dX6_plays_23 ?_
  refine z_bipush hx (n := 8) dX6_plays_26 rfl ?_
  refine z_iald hx (n := 320) (z_lt1 (z_ok_sd hx) (by decide)) (z_kc1 (z_ok_sd hx) _) rfl (by decide) dX6_plays_28 h (fun h => ?_)
  refine z_icmp_ge hx (tgt := 91) dX6_plays_29 (by decide) h (fun h => h) (fun hc h => ?_) (fun hc h => ?_)
  · refine z_iconst hx (n := 0) dX6_plays_91 ?_
    refine z_istore_n hx hn (lv' := [(1, .int (zi 0)), (0, .ref (z_ad (z_g C) 0))]) dX6_plays_92 (by decide) rfl ?_
    refine z_iconst hx (n := 0) dX6_plays_93 ?_
    refine z_istore_n hx hn (lv' := [(2, .int (zi 0)), (1, .int (zi 0)), (0, .ref (z_ad (z_g C) 0))]) dX6_plays_94 (by decide) rfl ?_
    refine z_sub [2, 1, 0] rfl ?_
    exact w_X6_plays_l95 hx hn hR hq z_fuel σ 0 0 h
  · refine z_aload_n hx 0 dX6_plays_32 rfl ?_
    refine z_iload_n hx 1 dX6_plays_33 rfl ?_
    refine z_iconst hx (n := 1) dX6_plays_34 ?_
    obtain ⟨r2, σ1, h35, h⟩ := z_bind_some h
    refine z_calli hx (As := [.int (zi x1), .int (zi 1)]) (k := 0) (met_X6_of (z_l C) (z_g C) (z_ok_sd hx) h35) (z_lt1 (z_ok_sd hx) (by decide)) (z_kc0 (z_ok_sd hx) _) rfl rfl cv_X6_92 (z_room hR ⟨Nat.le_of_ble_eq_true rfl, Nat.le_of_ble_eq_true rfl⟩) ⟨rfl, rfl⟩ rfl rfl (Nat.le_of_ble_eq_true rfl) dX6_plays_35 ?_
    refine z_istore_n hx hn (lv' := [(2, .int (zi r2)), (0, .ref (z_ad (z_g C) 0)), (1, .int (zi x1))]) dX6_plays_38 (by decide) rfl ?_
    refine z_sub [1, 2, 0] rfl ?_
    exact w_X6_plays_l39 hx hn hR hq hK21 z_fuel σ1 x1 r2 h

theorem w_X6_plays_l21 {C : zC} (hx : z_ok C cX6_plays RX6 1) (hn : z_nL C = 4) (hR : z_R C = rm_X6_plays) {rr : Unit × zS} (hq : z_fin C none (z_QV (z_g C) rr.2)) : ∀ (n : Nat) (σ : zS) (x1 : Int) (_ : f_X6_plays_l21 n σ x1 = some rr), z_W C σ 21 [(0, .ref (z_ad (z_g C) 0)), (1, .int (zi x1))] [] := by
  intro n
  induction n with
  | zero => intro σ x1 h; cases h
  | succ n ih =>
    intro σ x1 h
    exact w_X6_plays_b21 hx hn hR hq ih σ x1 h
theorem w_X6_plays {C : zC} (hx : z_ok C cX6_plays RX6 1) (hn : z_nL C = 4) (hR : z_R C = rm_X6_plays) {rr : Unit × zS} (hq : z_fin C none (z_QV (z_g C) rr.2)) (σ : zS) (h : f_X6_plays σ = some rr) : z_W C σ 0 [(0, .ref (z_ad (z_g C) 0))] [] := by
  unfold f_X6_plays at h
  refine z_aload_n hx 0 dX6_plays_0 rfl ?_
  obtain ⟨⟨⟩, σ1, h1, h⟩ := z_bind_some h
  refine z_callv hx (As := []) (k := 0) (met_X6_finds (z_l C) (z_g C) (z_ok_sd hx) h1) (z_lt1 (z_ok_sd hx) (by decide)) (z_kc0 (z_ok_sd hx) _) rfl rfl cv_X6_126 (z_room hR ⟨Nat.le_of_ble_eq_true rfl, Nat.le_of_ble_eq_true rfl⟩) ⟨rfl, rfl⟩ rfl rfl (Nat.le_of_ble_eq_true rfl) dX6_plays_1 ?_
  refine z_aload_n hx 0 dX6_plays_4 rfl ?_
  refine z_iconst hx (n := 0) dX6_plays_5 ?_
  refine pf_X6_heardMany hx wf_X6_135 dX6_plays_6 h (fun σ2 h => ?_)
  refine z_aload_n hx 0 dX6_plays_9 rfl ?_
  refine z_iconst hx (n := 0) dX6_plays_10 ?_
  refine pf_X6_roomMany hx wf_X6_138 dX6_plays_11 h (fun σ3 h => ?_)
  refine z_aload_n hx 0 dX6_plays_14 rfl ?_
  refine z_iconst hx (n := 0) dX6_plays_15 ?_
  refine pf_X6_taken hx wf_X6_141 dX6_plays_16 h (fun σ4 h => ?_)
  refine z_iconst hx (n := 0) dX6_plays_19 ?_
  refine z_istore_n hx hn (lv' := [(1, .int (zi 0)), (0, .ref (z_ad (z_g C) 0))]) dX6_plays_20 (by decide) rfl ?_
  refine z_sub [1, 0] rfl ?_
  exact w_X6_plays_l21 hx hn hR hq z_fuel σ4 0 h

theorem met_X6_plays (l : Launch) (g : zG) (hg : g.1 = 1) {σ : zS} {rr : Unit × zS} (h : f_X6_plays σ = some rr) : z_Met l yX6_plays cX6_plays 4 none rm_X6_plays g [.ref (z_ad (g) 0)] σ (z_QV g rr.2) := by
  refine z_enter (own := RX6) (sd := 1) (lv0 := [(0, .ref (z_ad (g) 0))]) (by decide) rfl (Nat.le_of_ble_eq_true rfl) hg rfl (fun C hx hl hgC hR hn hq => ?_)
  subst hgC
  refine z_sub [0] rfl ?_
  exact w_X6_plays hx hn hR hq σ h
theorem dX6_length_0 : decode cX6_length 0 = .ok (.aload_n 0, 1) := by decide +kernel
theorem dX6_length_1 : decode cX6_length 1 = .ok (.invokevirtual 154, 3) := by decide +kernel
theorem dX6_length_4 : decode cX6_length 4 = .ok (.aload_n 0, 1) := by decide +kernel
theorem dX6_length_5 : decode cX6_length 5 = .ok (.getfield 135, 3) := by decide +kernel
theorem dX6_length_8 : decode cX6_length 8 = .ok (.ireturn, 1) := by decide +kernel
abbrev rm_X6_length : Room := { frames := 7, cells := 0, slots := 0, locals := 162 }
theorem w_X6_length {C : zC} (hx : z_ok C cX6_length RX6 1) (hn : z_nL C = 1) (hR : z_R C = rm_X6_length) {rr : Int × zS} (hq : z_fin C (some .int) (z_QI (z_g C) rr.1 rr.2)) (σ : zS) (h : f_X6_length σ = some rr) : z_W C σ 0 [(0, .ref (z_ad (z_g C) 0))] [] := by
  unfold f_X6_length at h
  refine z_aload_n hx 0 dX6_length_0 rfl ?_
  obtain ⟨⟨⟩, σ1, h1, h⟩ := z_bind_some h
  refine z_callv hx (As := []) (k := 0) (met_X6_plays (z_l C) (z_g C) (z_ok_sd hx) h1) (z_lt1 (z_ok_sd hx) (by decide)) (z_kc0 (z_ok_sd hx) _) rfl rfl cv_X6_154 (z_room hR ⟨Nat.le_of_ble_eq_true rfl, Nat.le_of_ble_eq_true rfl⟩) ⟨rfl, rfl⟩ rfl rfl (Nat.le_of_ble_eq_true rfl) dX6_length_1 ?_
  refine z_aload_n hx 0 dX6_length_4 rfl ?_
  refine gf_X6_heardMany hx wf_X6_135 dX6_length_5 ?_
  cases h
  exact z_iret hx hq dX6_length_8

theorem met_X6_length (l : Launch) (g : zG) (hg : g.1 = 1) {σ : zS} {rr : Int × zS} (h : f_X6_length σ = some rr) : z_Met l yX6_length cX6_length 1 (some .int) rm_X6_length g [.ref (z_ad (g) 0)] σ (z_QI g rr.1 rr.2) := by
  refine z_enter (own := RX6) (sd := 1) (lv0 := [(0, .ref (z_ad (g) 0))]) (by decide) rfl (Nat.le_of_ble_eq_true rfl) hg rfl (fun C hx hl hgC hR hn hq => ?_)
  subst hgC
  refine z_sub [0] rfl ?_
  exact w_X6_length hx hn hR hq σ h
theorem dX6_heard_0 : decode cX6_heard 0 = .ok (.aload_n 0, 1) := by decide +kernel
theorem dX6_heard_1 : decode cX6_heard 1 = .ok (.invokevirtual 154, 3) := by decide +kernel
theorem dX6_heard_4 : decode cX6_heard 4 = .ok (.iload_n 1, 1) := by decide +kernel
theorem dX6_heard_5 : decode cX6_heard 5 = .ok (.iconst 0, 1) := by decide +kernel
theorem dX6_heard_6 : decode cX6_heard 6 = .ok (.aload_n 0, 1) := by decide +kernel
theorem dX6_heard_7 : decode cX6_heard 7 = .ok (.getfield 135, 3) := by decide +kernel
theorem dX6_heard_10 : decode cX6_heard 10 = .ok (.iconst 1, 1) := by decide +kernel
theorem dX6_heard_11 : decode cX6_heard 11 = .ok (.isub, 1) := by decide +kernel
theorem dX6_heard_12 : decode cX6_heard 12 = .ok (.invokestatic 41, 3) := by decide +kernel
theorem dX6_heard_15 : decode cX6_heard 15 = .ok (.ifCond .eq 34, 3) := by decide +kernel
theorem dX6_heard_18 : decode cX6_heard 18 = .ok (.iload_n 2, 1) := by decide +kernel
theorem dX6_heard_19 : decode cX6_heard 19 = .ok (.iconst 0, 1) := by decide +kernel
theorem dX6_heard_20 : decode cX6_heard 20 = .ok (.iconst 1, 1) := by decide +kernel
theorem dX6_heard_21 : decode cX6_heard 21 = .ok (.invokestatic 41, 3) := by decide +kernel
theorem dX6_heard_24 : decode cX6_heard 24 = .ok (.ifCond .eq 25, 3) := by decide +kernel
theorem dX6_heard_27 : decode cX6_heard 27 = .ok (.iload_n 2, 1) := by decide +kernel
theorem dX6_heard_28 : decode cX6_heard 28 = .ok (.ifCond .ne 12, 3) := by decide +kernel
theorem dX6_heard_31 : decode cX6_heard 31 = .ok (.aload_n 0, 1) := by decide +kernel
theorem dX6_heard_32 : decode cX6_heard 32 = .ok (.getfield 28, 3) := by decide +kernel
theorem dX6_heard_35 : decode cX6_heard 35 = .ok (.iload_n 1, 1) := by decide +kernel
theorem dX6_heard_36 : decode cX6_heard 36 = .ok (.iaload, 1) := by decide +kernel
theorem dX6_heard_37 : decode cX6_heard 37 = .ok (.goto 13, 3) := by decide +kernel
theorem dX6_heard_40 : decode cX6_heard 40 = .ok (.aload_n 0, 1) := by decide +kernel
theorem dX6_heard_41 : decode cX6_heard 41 = .ok (.getfield 31, 3) := by decide +kernel
theorem dX6_heard_44 : decode cX6_heard 44 = .ok (.iload_n 1, 1) := by decide +kernel
theorem dX6_heard_45 : decode cX6_heard 45 = .ok (.iaload, 1) := by decide +kernel
theorem dX6_heard_46 : decode cX6_heard 46 = .ok (.goto 4, 3) := by decide +kernel
theorem dX6_heard_49 : decode cX6_heard 49 = .ok (.iconst (-1), 1) := by decide +kernel
theorem dX6_heard_50 : decode cX6_heard 50 = .ok (.ireturn, 1) := by decide +kernel
abbrev rm_X6_heard : Room := { frames := 7, cells := 0, slots := 0, locals := 162 }
theorem w_X6_heard_b50 {C : zC} (hx : z_ok C cX6_heard RX6 1) (hn : z_nL C = 3) (hR : z_R C = rm_X6_heard) {rr : Int × zS} (hq : z_fin C (some .int) (z_QI (z_g C) rr.1 rr.2)) (σ : zS) (s0 : Int) (h : f_X6_heard_b50 σ s0 = some rr) : z_W C σ 50 [] [.int (zi s0)] := by
  unfold f_X6_heard_b50 at h
  cases h
  exact z_iret hx hq dX6_heard_50

theorem w_X6_heard_b49 {C : zC} (hx : z_ok C cX6_heard RX6 1) (hn : z_nL C = 3) (hR : z_R C = rm_X6_heard) {rr : Int × zS} (hq : z_fin C (some .int) (z_QI (z_g C) rr.1 rr.2)) (σ : zS) (h : f_X6_heard_b49 σ = some rr) : z_W C σ 49 [] [] := by
  unfold f_X6_heard_b49 at h
  refine z_iconst hx (n := (-1)) dX6_heard_49 ?_
  refine z_sub [] rfl ?_
  exact w_X6_heard_b50 hx hn hR hq σ (-1) h

theorem w_X6_heard {C : zC} (hx : z_ok C cX6_heard RX6 1) (hn : z_nL C = 3) (hR : z_R C = rm_X6_heard) {rr : Int × zS} (hq : z_fin C (some .int) (z_QI (z_g C) rr.1 rr.2)) (σ : zS) (x1 : Int) (x2 : Int) (h : f_X6_heard σ x1 x2 = some rr) : z_W C σ 0 [(0, .ref (z_ad (z_g C) 0)), (1, .int (zi x1)), (2, .int (zi x2))] [] := by
  unfold f_X6_heard at h
  refine z_aload_n hx 0 dX6_heard_0 rfl ?_
  obtain ⟨⟨⟩, σ1, h1, h⟩ := z_bind_some h
  refine z_callv hx (As := []) (k := 0) (met_X6_plays (z_l C) (z_g C) (z_ok_sd hx) h1) (z_lt1 (z_ok_sd hx) (by decide)) (z_kc0 (z_ok_sd hx) _) rfl rfl cv_X6_154 (z_room hR ⟨Nat.le_of_ble_eq_true rfl, Nat.le_of_ble_eq_true rfl⟩) ⟨rfl, rfl⟩ rfl rfl (Nat.le_of_ble_eq_true rfl) dX6_heard_1 ?_
  refine z_iload_n hx 1 dX6_heard_4 rfl ?_
  refine z_iconst hx (n := 0) dX6_heard_5 ?_
  refine z_aload_n hx 0 dX6_heard_6 rfl ?_
  refine gf_X6_heardMany hx wf_X6_135 dX6_heard_7 ?_
  refine z_iconst hx (n := 1) dX6_heard_10 ?_
  refine z_isub hx dX6_heard_11 ?_
  obtain ⟨r3, σ2, h12, h⟩ := z_bind_some h
  refine z_calls hx (As := [.int (zi x1), .int (zi 0), .int (zi ((σ1 0 15) - 1))]) (met_X6_in (z_l C) (z_g C) (z_ok_sd hx) h12) cv_X6_41 (z_room hR ⟨Nat.le_of_ble_eq_true rfl, Nat.le_of_ble_eq_true rfl⟩) ⟨rfl, rfl⟩ rfl rfl (Nat.le_of_ble_eq_true rfl) dX6_heard_12 ?_
  refine z_if_eq hx (tgt := 49) dX6_heard_15 (by decide) h (fun h => h) (fun hc h => ?_) (fun hc h => ?_)
  · refine z_sub [] rfl ?_
    exact w_X6_heard_b49 hx hn hR hq σ2 h
  · refine z_iload_n hx 2 dX6_heard_18 rfl ?_
    refine z_iconst hx (n := 0) dX6_heard_19 ?_
    refine z_iconst hx (n := 1) dX6_heard_20 ?_
    obtain ⟨r5, σ4, h21, h⟩ := z_bind_some h
    refine z_calls hx (As := [.int (zi x2), .int (zi 0), .int (zi 1)]) (met_X6_in (z_l C) (z_g C) (z_ok_sd hx) h21) cv_X6_41 (z_room hR ⟨Nat.le_of_ble_eq_true rfl, Nat.le_of_ble_eq_true rfl⟩) ⟨rfl, rfl⟩ rfl rfl (Nat.le_of_ble_eq_true rfl) dX6_heard_21 ?_
    refine z_if_eq hx (tgt := 49) dX6_heard_24 (by decide) h (fun h => h) (fun hc h => ?_) (fun hc h => ?_)
    · refine z_sub [] rfl ?_
      exact w_X6_heard_b49 hx hn hR hq σ4 h
    · refine z_iload_n hx 2 dX6_heard_27 rfl ?_
      refine z_if_ne hx (tgt := 40) dX6_heard_28 (by decide) h (fun h => h) (fun hc h => ?_) (fun hc h => ?_)
      · refine z_aload_n hx 0 dX6_heard_40 rfl ?_
        refine gf_X6_heardLevel hx wf_X6_31 dX6_heard_41 ?_
        refine z_iload_n hx 1 dX6_heard_44 rfl ?_
        refine z_iald hx (n := 1400) (z_lt1 (z_ok_sd hx) (by decide)) (z_kc8 (z_ok_sd hx) _) rfl (by decide) dX6_heard_45 h (fun h => ?_)
        refine z_goto hx (tgt := 50) dX6_heard_46 (by decide) ?_
        refine z_sub [] rfl ?_
        exact w_X6_heard_b50 hx hn hR hq σ4 (σ4 8 x1) h
      · refine z_aload_n hx 0 dX6_heard_31 rfl ?_
        refine gf_X6_source hx wf_X6_28 dX6_heard_32 ?_
        refine z_iload_n hx 1 dX6_heard_35 rfl ?_
        refine z_iald hx (n := 1400) (z_lt1 (z_ok_sd hx) (by decide)) (z_kc7 (z_ok_sd hx) _) rfl (by decide) dX6_heard_36 h (fun h => ?_)
        refine z_goto hx (tgt := 50) dX6_heard_37 (by decide) ?_
        refine z_sub [] rfl ?_
        exact w_X6_heard_b50 hx hn hR hq σ4 (σ4 7 x1) h

theorem met_X6_heard (l : Launch) (g : zG) (hg : g.1 = 1) {σ : zS} {x1 : Int} {x2 : Int} {rr : Int × zS} (h : f_X6_heard σ x1 x2 = some rr) : z_Met l yX6_heard cX6_heard 3 (some .int) rm_X6_heard g [.ref (z_ad (g) 0), .int (zi x1), .int (zi x2)] σ (z_QI g rr.1 rr.2) := by
  refine z_enter (own := RX6) (sd := 1) (lv0 := [(0, .ref (z_ad (g) 0)), (1, .int (zi x1)), (2, .int (zi x2))]) (by decide) rfl (Nat.le_of_ble_eq_true rfl) hg rfl (fun C hx hl hgC hR hn hq => ?_)
  subst hgC
  refine z_sub [0, 1, 2] rfl ?_
  exact w_X6_heard hx hn hR hq σ x1 x2 h
theorem dX6_where_0 : decode cX6_where 0 = .ok (.iload_n 1, 1) := by decide +kernel
theorem dX6_where_1 : decode cX6_where 1 = .ok (.iconst 0, 1) := by decide +kernel
theorem dX6_where_2 : decode cX6_where 2 = .ok (.aload_n 0, 1) := by decide +kernel
theorem dX6_where_3 : decode cX6_where 3 = .ok (.getfield 7, 3) := by decide +kernel
theorem dX6_where_6 : decode cX6_where 6 = .ok (.bipush 7, 2) := by decide +kernel
theorem dX6_where_8 : decode cX6_where 8 = .ok (.iaload, 1) := by decide +kernel
theorem dX6_where_9 : decode cX6_where 9 = .ok (.iconst 1, 1) := by decide +kernel
theorem dX6_where_10 : decode cX6_where 10 = .ok (.isub, 1) := by decide +kernel
theorem dX6_where_11 : decode cX6_where 11 = .ok (.invokestatic 41, 3) := by decide +kernel
theorem dX6_where_14 : decode cX6_where 14 = .ok (.ifCond .ne 5, 3) := by decide +kernel
theorem dX6_where_17 : decode cX6_where 17 = .ok (.iconst (-1), 1) := by decide +kernel
theorem dX6_where_18 : decode cX6_where 18 = .ok (.ireturn, 1) := by decide +kernel
theorem dX6_where_19 : decode cX6_where 19 = .ok (.aload_n 0, 1) := by decide +kernel
theorem dX6_where_20 : decode cX6_where 20 = .ok (.invokevirtual 154, 3) := by decide +kernel
theorem dX6_where_23 : decode cX6_where 23 = .ok (.bipush (-9), 2) := by decide +kernel
theorem dX6_where_25 : decode cX6_where 25 = .ok (.istore_n 2, 1) := by decide +kernel
theorem dX6_where_26 : decode cX6_where 26 = .ok (.iconst 0, 1) := by decide +kernel
theorem dX6_where_27 : decode cX6_where 27 = .ok (.istore_n 3, 1) := by decide +kernel
theorem dX6_where_28 : decode cX6_where 28 = .ok (.iload_n 3, 1) := by decide +kernel
theorem dX6_where_29 : decode cX6_where 29 = .ok (.aload_n 0, 1) := by decide +kernel
theorem dX6_where_30 : decode cX6_where 30 = .ok (.getfield 135, 3) := by decide +kernel
theorem dX6_where_33 : decode cX6_where 33 = .ok (.if_icmp .ge 25, 3) := by decide +kernel
theorem dX6_where_36 : decode cX6_where 36 = .ok (.aload_n 0, 1) := by decide +kernel
theorem dX6_where_37 : decode cX6_where 37 = .ok (.getfield 28, 3) := by decide +kernel
theorem dX6_where_40 : decode cX6_where 40 = .ok (.iload_n 3, 1) := by decide +kernel
theorem dX6_where_41 : decode cX6_where 41 = .ok (.iaload, 1) := by decide +kernel
theorem dX6_where_42 : decode cX6_where 42 = .ok (.iload_n 1, 1) := by decide +kernel
theorem dX6_where_43 : decode cX6_where 43 = .ok (.if_icmp .ne 7, 3) := by decide +kernel
theorem dX6_where_46 : decode cX6_where 46 = .ok (.iload_n 3, 1) := by decide +kernel
theorem dX6_where_47 : decode cX6_where 47 = .ok (.goto 4, 3) := by decide +kernel
theorem dX6_where_50 : decode cX6_where 50 = .ok (.iload_n 2, 1) := by decide +kernel
theorem dX6_where_51 : decode cX6_where 51 = .ok (.istore_n 2, 1) := by decide +kernel
theorem dX6_where_52 : decode cX6_where 52 = .ok (.iinc 3 1, 3) := by decide +kernel
theorem dX6_where_55 : decode cX6_where 55 = .ok (.goto (-27), 3) := by decide +kernel
theorem dX6_where_58 : decode cX6_where 58 = .ok (.iload_n 2, 1) := by decide +kernel
theorem dX6_where_59 : decode cX6_where 59 = .ok (.ireturn, 1) := by decide +kernel
abbrev rm_X6_where : Room := { frames := 7, cells := 0, slots := 0, locals := 162 }
theorem w_X6_where_b51 {C : zC} (hx : z_ok C cX6_where RX6 1) (hn : z_nL C = 4) (hR : z_R C = rm_X6_where) {rr : Int × zS} (hq : z_fin C (some .int) (z_QI (z_g C) rr.1 rr.2)) {K28 : zS → Int → Int → Int → Option (Int × zS)} (hK28 : ∀ (σ : zS) (x1 : Int) (x2 : Int) (x3 : Int) , K28 σ x1 x2 x3 = some rr → z_W C σ 28 [(0, .ref (z_ad (z_g C) 0)), (1, .int (zi x1)), (2, .int (zi x2)), (3, .int (zi x3))] []) (σ : zS) (x1 : Int) (x3 : Int) (s0 : Int) (h : f_X6_where_b51 K28 σ x1 x3 s0 = some rr) : z_W C σ 51 [(0, .ref (z_ad (z_g C) 0)), (1, .int (zi x1)), (3, .int (zi x3))] [.int (zi s0)] := by
  unfold f_X6_where_b51 at h
  refine z_istore_n hx hn (lv' := [(2, .int (zi s0)), (0, .ref (z_ad (z_g C) 0)), (1, .int (zi x1)), (3, .int (zi x3))]) dX6_where_51 (by decide) rfl ?_
  refine z_iinc hx hn 3 (lv' := [(3, .int (zi (x3 + 1))), (2, .int (zi s0)), (0, .ref (z_ad (z_g C) 0)), (1, .int (zi x1))]) dX6_where_52 rfl (by decide) rfl ?_
  refine z_goto hx (tgt := 28) dX6_where_55 (by decide) ?_
  refine z_sub [2, 3, 1, 0] rfl ?_
  exact hK28 σ x1 s0 (x3 + 1) h

theorem w_X6_where_b28 {C : zC} (hx : z_ok C cX6_where RX6 1) (hn : z_nL C = 4) (hR : z_R C = rm_X6_where) {rr : Int × zS} (hq : z_fin C (some .int) (z_QI (z_g C) rr.1 rr.2)) {K28 : zS → Int → Int → Int → Option (Int × zS)} (hK28 : ∀ (σ : zS) (x1 : Int) (x2 : Int) (x3 : Int) , K28 σ x1 x2 x3 = some rr → z_W C σ 28 [(0, .ref (z_ad (z_g C) 0)), (1, .int (zi x1)), (2, .int (zi x2)), (3, .int (zi x3))] []) (σ : zS) (x1 : Int) (x2 : Int) (x3 : Int) (h : f_X6_where_b28 K28 σ x1 x2 x3 = some rr) : z_W C σ 28 [(0, .ref (z_ad (z_g C) 0)), (1, .int (zi x1)), (2, .int (zi x2)), (3, .int (zi x3))] [] := by
  unfold f_X6_where_b28 at h
  refine z_iload_n hx 3 dX6_where_28 rfl ?_
  refine z_aload_n hx 0 dX6_where_29 rfl ?_
  refine gf_X6_heardMany hx wf_X6_135 dX6_where_30 ?_
  refine z_icmp_ge hx (tgt := 58) dX6_where_33 (by decide) h (fun h => h) (fun hc h => ?_) (fun hc h => ?_)
  · refine z_iload_n hx 2 dX6_where_58 rfl ?_
    cases h
    exact z_iret hx hq dX6_where_59
  · refine z_aload_n hx 0 dX6_where_36 rfl ?_
    refine gf_X6_source hx wf_X6_28 dX6_where_37 ?_
    refine z_iload_n hx 3 dX6_where_40 rfl ?_
    refine z_iald hx (n := 1400) (z_lt1 (z_ok_sd hx) (by decide)) (z_kc7 (z_ok_sd hx) _) rfl (by decide) dX6_where_41 h (fun h => ?_)
    refine z_iload_n hx 1 dX6_where_42 rfl ?_
    refine z_icmp_ne hx (tgt := 50) dX6_where_43 (by decide) h (fun h => h) (fun hc h => ?_) (fun hc h => ?_)
    · refine z_iload_n hx 2 dX6_where_50 rfl ?_
      refine z_sub [0, 1, 3] rfl ?_
      exact w_X6_where_b51 hx hn hR hq hK28 σ x1 x3 x2 h
    · refine z_iload_n hx 3 dX6_where_46 rfl ?_
      refine z_goto hx (tgt := 51) dX6_where_47 (by decide) ?_
      refine z_sub [0, 1, 3] rfl ?_
      exact w_X6_where_b51 hx hn hR hq hK28 σ x1 x3 x3 h

theorem w_X6_where_l28 {C : zC} (hx : z_ok C cX6_where RX6 1) (hn : z_nL C = 4) (hR : z_R C = rm_X6_where) {rr : Int × zS} (hq : z_fin C (some .int) (z_QI (z_g C) rr.1 rr.2)) : ∀ (n : Nat) (σ : zS) (x1 : Int) (x2 : Int) (x3 : Int) (_ : f_X6_where_l28 n σ x1 x2 x3 = some rr), z_W C σ 28 [(0, .ref (z_ad (z_g C) 0)), (1, .int (zi x1)), (2, .int (zi x2)), (3, .int (zi x3))] [] := by
  intro n
  induction n with
  | zero => intro σ x1 x2 x3 h; cases h
  | succ n ih =>
    intro σ x1 x2 x3 h
    exact w_X6_where_b28 hx hn hR hq ih σ x1 x2 x3 h
theorem w_X6_where {C : zC} (hx : z_ok C cX6_where RX6 1) (hn : z_nL C = 4) (hR : z_R C = rm_X6_where) {rr : Int × zS} (hq : z_fin C (some .int) (z_QI (z_g C) rr.1 rr.2)) (σ : zS) (x1 : Int) (h : f_X6_where σ x1 = some rr) : z_W C σ 0 [(0, .ref (z_ad (z_g C) 0)), (1, .int (zi x1))] [] := by
  unfold f_X6_where at h
  refine z_iload_n hx 1 dX6_where_0 rfl ?_
  refine z_iconst hx (n := 0) dX6_where_1 ?_
  refine z_aload_n hx 0 dX6_where_2 rfl ?_
  refine gf_X6_v hx wf_X6_7 dX6_where_3 ?_
  refine z_bipush hx (n := 7) dX6_where_6 rfl ?_
  refine z_iald hx (n := 320) (z_lt1 (z_ok_sd hx) (by decide)) (z_kc1 (z_ok_sd hx) _) rfl (by decide) dX6_where_8 h (fun h => ?_)
  refine z_iconst hx (n := 1) dX6_where_9 ?_
  refine z_isub hx dX6_where_10 ?_
  obtain ⟨r2, σ1, h11, h⟩ := z_bind_some h
  refine z_calls hx (As := [.int (zi x1), .int (zi 0), .int (zi ((σ 1 7) - 1))]) (met_X6_in (z_l C) (z_g C) (z_ok_sd hx) h11) cv_X6_41 (z_room hR ⟨Nat.le_of_ble_eq_true rfl, Nat.le_of_ble_eq_true rfl⟩) ⟨rfl, rfl⟩ rfl rfl (Nat.le_of_ble_eq_true rfl) dX6_where_11 ?_
  refine z_if_ne hx (tgt := 19) dX6_where_14 (by decide) h (fun h => h) (fun hc h => ?_) (fun hc h => ?_)
  · refine z_aload_n hx 0 dX6_where_19 rfl ?_
    obtain ⟨⟨⟩, σ3, h20, h⟩ := z_bind_some h
    refine z_callv hx (As := []) (k := 0) (met_X6_plays (z_l C) (z_g C) (z_ok_sd hx) h20) (z_lt1 (z_ok_sd hx) (by decide)) (z_kc0 (z_ok_sd hx) _) rfl rfl cv_X6_154 (z_room hR ⟨Nat.le_of_ble_eq_true rfl, Nat.le_of_ble_eq_true rfl⟩) ⟨rfl, rfl⟩ rfl rfl (Nat.le_of_ble_eq_true rfl) dX6_where_20 ?_
    refine z_bipush hx (n := (-9)) dX6_where_23 rfl ?_
    refine z_istore_n hx hn (lv' := [(2, .int (zi (-9))), (0, .ref (z_ad (z_g C) 0)), (1, .int (zi x1))]) dX6_where_25 (by decide) rfl ?_
    refine z_iconst hx (n := 0) dX6_where_26 ?_
    refine z_istore_n hx hn (lv' := [(3, .int (zi 0)), (2, .int (zi (-9))), (0, .ref (z_ad (z_g C) 0)), (1, .int (zi x1))]) dX6_where_27 (by decide) rfl ?_
    refine z_sub [2, 3, 1, 0] rfl ?_
    exact w_X6_where_l28 hx hn hR hq z_fuel σ3 x1 (-9) 0 h
  · refine z_iconst hx (n := (-1)) dX6_where_17 ?_
    cases h
    exact z_iret hx hq dX6_where_18

theorem met_X6_where (l : Launch) (g : zG) (hg : g.1 = 1) {σ : zS} {x1 : Int} {rr : Int × zS} (h : f_X6_where σ x1 = some rr) : z_Met l yX6_where cX6_where 4 (some .int) rm_X6_where g [.ref (z_ad (g) 0), .int (zi x1)] σ (z_QI g rr.1 rr.2) := by
  refine z_enter (own := RX6) (sd := 1) (lv0 := [(0, .ref (z_ad (g) 0)), (1, .int (zi x1))]) (by decide) rfl (Nat.le_of_ble_eq_true rfl) hg rfl (fun C hx hl hgC hR hn hq => ?_)
  subst hgC
  refine z_sub [0, 1] rfl ?_
  exact w_X6_where hx hn hR hq σ x1 h
theorem dX6_clicks_0 : decode cX6_clicks 0 = .ok (.iload_n 1, 1) := by decide +kernel
theorem dX6_clicks_1 : decode cX6_clicks 1 = .ok (.iconst 0, 1) := by decide +kernel
theorem dX6_clicks_2 : decode cX6_clicks 2 = .ok (.bipush 9, 2) := by decide +kernel
theorem dX6_clicks_4 : decode cX6_clicks 4 = .ok (.invokestatic 41, 3) := by decide +kernel
theorem dX6_clicks_7 : decode cX6_clicks 7 = .ok (.ifCond .ne 5, 3) := by decide +kernel
theorem dX6_clicks_10 : decode cX6_clicks 10 = .ok (.iconst (-1), 1) := by decide +kernel
theorem dX6_clicks_11 : decode cX6_clicks 11 = .ok (.ireturn, 1) := by decide +kernel
theorem dX6_clicks_12 : decode cX6_clicks 12 = .ok (.aload_n 0, 1) := by decide +kernel
theorem dX6_clicks_13 : decode cX6_clicks 13 = .ok (.invokevirtual 154, 3) := by decide +kernel
theorem dX6_clicks_16 : decode cX6_clicks 16 = .ok (.iconst 0, 1) := by decide +kernel
theorem dX6_clicks_17 : decode cX6_clicks 17 = .ok (.istore_n 2, 1) := by decide +kernel
theorem dX6_clicks_18 : decode cX6_clicks 18 = .ok (.iconst 1, 1) := by decide +kernel
theorem dX6_clicks_19 : decode cX6_clicks 19 = .ok (.istore_n 3, 1) := by decide +kernel
theorem dX6_clicks_20 : decode cX6_clicks 20 = .ok (.iload_n 3, 1) := by decide +kernel
theorem dX6_clicks_21 : decode cX6_clicks 21 = .ok (.aload_n 0, 1) := by decide +kernel
theorem dX6_clicks_22 : decode cX6_clicks 22 = .ok (.getfield 135, 3) := by decide +kernel
theorem dX6_clicks_25 : decode cX6_clicks 25 = .ok (.if_icmp .ge 47, 3) := by decide +kernel
theorem dX6_clicks_28 : decode cX6_clicks 28 = .ok (.aload_n 0, 1) := by decide +kernel
theorem dX6_clicks_29 : decode cX6_clicks 29 = .ok (.getfield 31, 3) := by decide +kernel
theorem dX6_clicks_32 : decode cX6_clicks 32 = .ok (.iload_n 3, 1) := by decide +kernel
theorem dX6_clicks_33 : decode cX6_clicks 33 = .ok (.iaload, 1) := by decide +kernel
theorem dX6_clicks_34 : decode cX6_clicks 34 = .ok (.aload_n 0, 1) := by decide +kernel
theorem dX6_clicks_35 : decode cX6_clicks 35 = .ok (.getfield 31, 3) := by decide +kernel
theorem dX6_clicks_38 : decode cX6_clicks 38 = .ok (.iload_n 3, 1) := by decide +kernel
theorem dX6_clicks_39 : decode cX6_clicks 39 = .ok (.iconst 1, 1) := by decide +kernel
theorem dX6_clicks_40 : decode cX6_clicks 40 = .ok (.isub, 1) := by decide +kernel
theorem dX6_clicks_41 : decode cX6_clicks 41 = .ok (.iaload, 1) := by decide +kernel
theorem dX6_clicks_42 : decode cX6_clicks 42 = .ok (.isub, 1) := by decide +kernel
theorem dX6_clicks_43 : decode cX6_clicks 43 = .ok (.istore 4, 2) := by decide +kernel
theorem dX6_clicks_45 : decode cX6_clicks 45 = .ok (.iload_n 2, 1) := by decide +kernel
theorem dX6_clicks_46 : decode cX6_clicks 46 = .ok (.iload 4, 2) := by decide +kernel
theorem dX6_clicks_48 : decode cX6_clicks 48 = .ok (.iload_n 1, 1) := by decide +kernel
theorem dX6_clicks_49 : decode cX6_clicks 49 = .ok (.if_icmp .gt 10, 3) := by decide +kernel
theorem dX6_clicks_52 : decode cX6_clicks 52 = .ok (.iload 4, 2) := by decide +kernel
theorem dX6_clicks_54 : decode cX6_clicks 54 = .ok (.ineg, 1) := by decide +kernel
theorem dX6_clicks_55 : decode cX6_clicks 55 = .ok (.iload_n 1, 1) := by decide +kernel
theorem dX6_clicks_56 : decode cX6_clicks 56 = .ok (.if_icmp .le 7, 3) := by decide +kernel
theorem dX6_clicks_59 : decode cX6_clicks 59 = .ok (.iconst 1, 1) := by decide +kernel
theorem dX6_clicks_60 : decode cX6_clicks 60 = .ok (.goto 4, 3) := by decide +kernel
theorem dX6_clicks_63 : decode cX6_clicks 63 = .ok (.iconst 0, 1) := by decide +kernel
theorem dX6_clicks_64 : decode cX6_clicks 64 = .ok (.iadd, 1) := by decide +kernel
theorem dX6_clicks_65 : decode cX6_clicks 65 = .ok (.istore_n 2, 1) := by decide +kernel
theorem dX6_clicks_66 : decode cX6_clicks 66 = .ok (.iinc 3 1, 3) := by decide +kernel
theorem dX6_clicks_69 : decode cX6_clicks 69 = .ok (.goto (-49), 3) := by decide +kernel
theorem dX6_clicks_72 : decode cX6_clicks 72 = .ok (.iload_n 2, 1) := by decide +kernel
theorem dX6_clicks_73 : decode cX6_clicks 73 = .ok (.ireturn, 1) := by decide +kernel
abbrev rm_X6_clicks : Room := { frames := 7, cells := 0, slots := 0, locals := 162 }
theorem w_X6_clicks_b64 {C : zC} (hx : z_ok C cX6_clicks RX6 1) (hn : z_nL C = 5) (hR : z_R C = rm_X6_clicks) {rr : Int × zS} (hq : z_fin C (some .int) (z_QI (z_g C) rr.1 rr.2)) {K20 : zS → Int → Int → Int → Option (Int × zS)} (hK20 : ∀ (σ : zS) (x1 : Int) (x2 : Int) (x3 : Int) , K20 σ x1 x2 x3 = some rr → z_W C σ 20 [(0, .ref (z_ad (z_g C) 0)), (1, .int (zi x1)), (2, .int (zi x2)), (3, .int (zi x3))] []) (σ : zS) (x1 : Int) (x3 : Int) (s0 : Int) (s1 : Int) (h : f_X6_clicks_b64 K20 σ x1 x3 s0 s1 = some rr) : z_W C σ 64 [(0, .ref (z_ad (z_g C) 0)), (1, .int (zi x1)), (3, .int (zi x3))] [.int (zi s1), .int (zi s0)] := by
  unfold f_X6_clicks_b64 at h
  refine z_iadd hx dX6_clicks_64 ?_
  refine z_istore_n hx hn (lv' := [(2, .int (zi (s0 + s1))), (0, .ref (z_ad (z_g C) 0)), (1, .int (zi x1)), (3, .int (zi x3))]) dX6_clicks_65 (by decide) rfl ?_
  refine z_iinc hx hn 3 (lv' := [(3, .int (zi (x3 + 1))), (2, .int (zi (s0 + s1))), (0, .ref (z_ad (z_g C) 0)), (1, .int (zi x1))]) dX6_clicks_66 rfl (by decide) rfl ?_
  refine z_goto hx (tgt := 20) dX6_clicks_69 (by decide) ?_
  refine z_sub [2, 3, 1, 0] rfl ?_
  exact hK20 σ x1 (s0 + s1) (x3 + 1) h

theorem w_X6_clicks_b59 {C : zC} (hx : z_ok C cX6_clicks RX6 1) (hn : z_nL C = 5) (hR : z_R C = rm_X6_clicks) {rr : Int × zS} (hq : z_fin C (some .int) (z_QI (z_g C) rr.1 rr.2)) {K20 : zS → Int → Int → Int → Option (Int × zS)} (hK20 : ∀ (σ : zS) (x1 : Int) (x2 : Int) (x3 : Int) , K20 σ x1 x2 x3 = some rr → z_W C σ 20 [(0, .ref (z_ad (z_g C) 0)), (1, .int (zi x1)), (2, .int (zi x2)), (3, .int (zi x3))] []) (σ : zS) (x1 : Int) (x3 : Int) (s0 : Int) (h : f_X6_clicks_b59 K20 σ x1 x3 s0 = some rr) : z_W C σ 59 [(0, .ref (z_ad (z_g C) 0)), (1, .int (zi x1)), (3, .int (zi x3))] [.int (zi s0)] := by
  unfold f_X6_clicks_b59 at h
  refine z_iconst hx (n := 1) dX6_clicks_59 ?_
  refine z_goto hx (tgt := 64) dX6_clicks_60 (by decide) ?_
  refine z_sub [0, 1, 2] rfl ?_
  exact w_X6_clicks_b64 hx hn hR hq hK20 σ x1 x3 s0 1 h

theorem w_X6_clicks_b20 {C : zC} (hx : z_ok C cX6_clicks RX6 1) (hn : z_nL C = 5) (hR : z_R C = rm_X6_clicks) {rr : Int × zS} (hq : z_fin C (some .int) (z_QI (z_g C) rr.1 rr.2)) {K20 : zS → Int → Int → Int → Option (Int × zS)} (hK20 : ∀ (σ : zS) (x1 : Int) (x2 : Int) (x3 : Int) , K20 σ x1 x2 x3 = some rr → z_W C σ 20 [(0, .ref (z_ad (z_g C) 0)), (1, .int (zi x1)), (2, .int (zi x2)), (3, .int (zi x3))] []) (σ : zS) (x1 : Int) (x2 : Int) (x3 : Int) (h : f_X6_clicks_b20 K20 σ x1 x2 x3 = some rr) : z_W C σ 20 [(0, .ref (z_ad (z_g C) 0)), (1, .int (zi x1)), (2, .int (zi x2)), (3, .int (zi x3))] [] := by
  unfold f_X6_clicks_b20 at h
  refine z_iload_n hx 3 dX6_clicks_20 rfl ?_
  refine z_aload_n hx 0 dX6_clicks_21 rfl ?_
  refine gf_X6_heardMany hx wf_X6_135 dX6_clicks_22 ?_
  refine z_icmp_ge hx (tgt := 72) dX6_clicks_25 (by decide) h (fun h => h) (fun hc h => ?_) (fun hc h => ?_)
  · refine z_iload_n hx 2 dX6_clicks_72 rfl ?_
    cases h
    exact z_iret hx hq dX6_clicks_73
  · refine z_aload_n hx 0 dX6_clicks_28 rfl ?_
    refine gf_X6_heardLevel hx wf_X6_31 dX6_clicks_29 ?_
    refine z_iload_n hx 3 dX6_clicks_32 rfl ?_
    refine z_iald hx (n := 1400) (z_lt1 (z_ok_sd hx) (by decide)) (z_kc8 (z_ok_sd hx) _) rfl (by decide) dX6_clicks_33 h (fun h => ?_)
    refine z_aload_n hx 0 dX6_clicks_34 rfl ?_
    refine gf_X6_heardLevel hx wf_X6_31 dX6_clicks_35 ?_
    refine z_iload_n hx 3 dX6_clicks_38 rfl ?_
    refine z_iconst hx (n := 1) dX6_clicks_39 ?_
    refine z_isub hx dX6_clicks_40 ?_
    refine z_iald hx (n := 1400) (z_lt1 (z_ok_sd hx) (by decide)) (z_kc8 (z_ok_sd hx) _) rfl (by decide) dX6_clicks_41 h (fun h => ?_)
    refine z_isub hx dX6_clicks_42 ?_
    refine z_istore hx hn (lv' := [(4, .int (zi ((σ 8 x3) - (σ 8 (x3 - 1))))), (0, .ref (z_ad (z_g C) 0)), (1, .int (zi x1)), (2, .int (zi x2)), (3, .int (zi x3))]) dX6_clicks_43 (by decide) rfl ?_
    refine z_iload_n hx 3 dX6_clicks_45 rfl ?_
    refine z_iload hx 0 dX6_clicks_46 rfl ?_
    refine z_iload_n hx 2 dX6_clicks_48 rfl ?_
    refine z_icmp_gt hx (tgt := 59) dX6_clicks_49 (by decide) h (fun h => h) (fun hc h => ?_) (fun hc h => ?_)
    · refine z_sub [1, 2, 4] rfl ?_
      exact w_X6_clicks_b59 hx hn hR hq hK20 σ x1 x3 x2 h
    · refine z_iload hx 0 dX6_clicks_52 rfl ?_
      refine z_ineg hx dX6_clicks_54 ?_
      refine z_iload_n hx 2 dX6_clicks_55 rfl ?_
      refine z_icmp_le hx (tgt := 63) dX6_clicks_56 (by decide) h (fun h => h) (fun hc h => ?_) (fun hc h => ?_)
      · refine z_iconst hx (n := 0) dX6_clicks_63 ?_
        refine z_sub [1, 2, 4] rfl ?_
        exact w_X6_clicks_b64 hx hn hR hq hK20 σ x1 x3 x2 0 h
      · refine z_sub [1, 2, 4] rfl ?_
        exact w_X6_clicks_b59 hx hn hR hq hK20 σ x1 x3 x2 h

theorem w_X6_clicks_l20 {C : zC} (hx : z_ok C cX6_clicks RX6 1) (hn : z_nL C = 5) (hR : z_R C = rm_X6_clicks) {rr : Int × zS} (hq : z_fin C (some .int) (z_QI (z_g C) rr.1 rr.2)) : ∀ (n : Nat) (σ : zS) (x1 : Int) (x2 : Int) (x3 : Int) (_ : f_X6_clicks_l20 n σ x1 x2 x3 = some rr), z_W C σ 20 [(0, .ref (z_ad (z_g C) 0)), (1, .int (zi x1)), (2, .int (zi x2)), (3, .int (zi x3))] [] := by
  intro n
  induction n with
  | zero => intro σ x1 x2 x3 h; cases h
  | succ n ih =>
    intro σ x1 x2 x3 h
    exact w_X6_clicks_b20 hx hn hR hq ih σ x1 x2 x3 h
theorem w_X6_clicks {C : zC} (hx : z_ok C cX6_clicks RX6 1) (hn : z_nL C = 5) (hR : z_R C = rm_X6_clicks) {rr : Int × zS} (hq : z_fin C (some .int) (z_QI (z_g C) rr.1 rr.2)) (σ : zS) (x1 : Int) (h : f_X6_clicks σ x1 = some rr) : z_W C σ 0 [(0, .ref (z_ad (z_g C) 0)), (1, .int (zi x1))] [] := by
  unfold f_X6_clicks at h
  refine z_iload_n hx 1 dX6_clicks_0 rfl ?_
  refine z_iconst hx (n := 0) dX6_clicks_1 ?_
  refine z_bipush hx (n := 9) dX6_clicks_2 rfl ?_
  obtain ⟨r2, σ1, h4, h⟩ := z_bind_some h
  refine z_calls hx (As := [.int (zi x1), .int (zi 0), .int (zi 9)]) (met_X6_in (z_l C) (z_g C) (z_ok_sd hx) h4) cv_X6_41 (z_room hR ⟨Nat.le_of_ble_eq_true rfl, Nat.le_of_ble_eq_true rfl⟩) ⟨rfl, rfl⟩ rfl rfl (Nat.le_of_ble_eq_true rfl) dX6_clicks_4 ?_
  refine z_if_ne hx (tgt := 12) dX6_clicks_7 (by decide) h (fun h => h) (fun hc h => ?_) (fun hc h => ?_)
  · refine z_aload_n hx 0 dX6_clicks_12 rfl ?_
    obtain ⟨⟨⟩, σ3, h13, h⟩ := z_bind_some h
    refine z_callv hx (As := []) (k := 0) (met_X6_plays (z_l C) (z_g C) (z_ok_sd hx) h13) (z_lt1 (z_ok_sd hx) (by decide)) (z_kc0 (z_ok_sd hx) _) rfl rfl cv_X6_154 (z_room hR ⟨Nat.le_of_ble_eq_true rfl, Nat.le_of_ble_eq_true rfl⟩) ⟨rfl, rfl⟩ rfl rfl (Nat.le_of_ble_eq_true rfl) dX6_clicks_13 ?_
    refine z_iconst hx (n := 0) dX6_clicks_16 ?_
    refine z_istore_n hx hn (lv' := [(2, .int (zi 0)), (0, .ref (z_ad (z_g C) 0)), (1, .int (zi x1))]) dX6_clicks_17 (by decide) rfl ?_
    refine z_iconst hx (n := 1) dX6_clicks_18 ?_
    refine z_istore_n hx hn (lv' := [(3, .int (zi 1)), (2, .int (zi 0)), (0, .ref (z_ad (z_g C) 0)), (1, .int (zi x1))]) dX6_clicks_19 (by decide) rfl ?_
    refine z_sub [2, 3, 1, 0] rfl ?_
    exact w_X6_clicks_l20 hx hn hR hq z_fuel σ3 x1 0 1 h
  · refine z_iconst hx (n := (-1)) dX6_clicks_10 ?_
    cases h
    exact z_iret hx hq dX6_clicks_11

theorem met_X6_clicks (l : Launch) (g : zG) (hg : g.1 = 1) {σ : zS} {x1 : Int} {rr : Int × zS} (h : f_X6_clicks σ x1 = some rr) : z_Met l yX6_clicks cX6_clicks 5 (some .int) rm_X6_clicks g [.ref (z_ad (g) 0), .int (zi x1)] σ (z_QI g rr.1 rr.2) := by
  refine z_enter (own := RX6) (sd := 1) (lv0 := [(0, .ref (z_ad (g) 0)), (1, .int (zi x1))]) (by decide) rfl (Nat.le_of_ble_eq_true rfl) hg rfl (fun C hx hl hgC hR hn hq => ?_)
  subst hgC
  refine z_sub [0, 1] rfl ?_
  exact w_X6_clicks hx hn hR hq σ x1 h
theorem dX6_silence_0 : decode cX6_silence 0 = .ok (.aload_n 0, 1) := by decide +kernel
theorem dX6_silence_1 : decode cX6_silence 1 = .ok (.invokevirtual 154, 3) := by decide +kernel
theorem dX6_silence_4 : decode cX6_silence 4 = .ok (.iconst 0, 1) := by decide +kernel
theorem dX6_silence_5 : decode cX6_silence 5 = .ok (.istore_n 1, 1) := by decide +kernel
theorem dX6_silence_6 : decode cX6_silence 6 = .ok (.iconst 0, 1) := by decide +kernel
theorem dX6_silence_7 : decode cX6_silence 7 = .ok (.istore_n 2, 1) := by decide +kernel
theorem dX6_silence_8 : decode cX6_silence 8 = .ok (.iconst 0, 1) := by decide +kernel
theorem dX6_silence_9 : decode cX6_silence 9 = .ok (.istore_n 3, 1) := by decide +kernel
theorem dX6_silence_10 : decode cX6_silence 10 = .ok (.iload_n 3, 1) := by decide +kernel
theorem dX6_silence_11 : decode cX6_silence 11 = .ok (.aload_n 0, 1) := by decide +kernel
theorem dX6_silence_12 : decode cX6_silence 12 = .ok (.getfield 135, 3) := by decide +kernel
theorem dX6_silence_15 : decode cX6_silence 15 = .ok (.if_icmp .ge 43, 3) := by decide +kernel
theorem dX6_silence_18 : decode cX6_silence 18 = .ok (.aload_n 0, 1) := by decide +kernel
theorem dX6_silence_19 : decode cX6_silence 19 = .ok (.getfield 31, 3) := by decide +kernel
theorem dX6_silence_22 : decode cX6_silence 22 = .ok (.iload_n 3, 1) := by decide +kernel
theorem dX6_silence_23 : decode cX6_silence 23 = .ok (.iaload, 1) := by decide +kernel
theorem dX6_silence_24 : decode cX6_silence 24 = .ok (.aload_n 0, 1) := by decide +kernel
theorem dX6_silence_25 : decode cX6_silence 25 = .ok (.getfield 7, 3) := by decide +kernel
theorem dX6_silence_28 : decode cX6_silence 28 = .ok (.iconst 1, 1) := by decide +kernel
theorem dX6_silence_29 : decode cX6_silence 29 = .ok (.iaload, 1) := by decide +kernel
theorem dX6_silence_30 : decode cX6_silence 30 = .ok (.if_icmp .gt 9, 3) := by decide +kernel
theorem dX6_silence_33 : decode cX6_silence 33 = .ok (.iload_n 2, 1) := by decide +kernel
theorem dX6_silence_34 : decode cX6_silence 34 = .ok (.iconst 1, 1) := by decide +kernel
theorem dX6_silence_35 : decode cX6_silence 35 = .ok (.iadd, 1) := by decide +kernel
theorem dX6_silence_36 : decode cX6_silence 36 = .ok (.goto 4, 3) := by decide +kernel
theorem dX6_silence_39 : decode cX6_silence 39 = .ok (.iconst 0, 1) := by decide +kernel
theorem dX6_silence_40 : decode cX6_silence 40 = .ok (.istore_n 2, 1) := by decide +kernel
theorem dX6_silence_41 : decode cX6_silence 41 = .ok (.iload_n 2, 1) := by decide +kernel
theorem dX6_silence_42 : decode cX6_silence 42 = .ok (.iload_n 1, 1) := by decide +kernel
theorem dX6_silence_43 : decode cX6_silence 43 = .ok (.if_icmp .le 7, 3) := by decide +kernel
theorem dX6_silence_46 : decode cX6_silence 46 = .ok (.iload_n 2, 1) := by decide +kernel
theorem dX6_silence_47 : decode cX6_silence 47 = .ok (.goto 4, 3) := by decide +kernel
theorem dX6_silence_50 : decode cX6_silence 50 = .ok (.iload_n 1, 1) := by decide +kernel
theorem dX6_silence_51 : decode cX6_silence 51 = .ok (.istore_n 1, 1) := by decide +kernel
theorem dX6_silence_52 : decode cX6_silence 52 = .ok (.iinc 3 1, 3) := by decide +kernel
theorem dX6_silence_55 : decode cX6_silence 55 = .ok (.goto (-45), 3) := by decide +kernel
theorem dX6_silence_58 : decode cX6_silence 58 = .ok (.iload_n 1, 1) := by decide +kernel
theorem dX6_silence_59 : decode cX6_silence 59 = .ok (.ireturn, 1) := by decide +kernel
abbrev rm_X6_silence : Room := { frames := 7, cells := 0, slots := 0, locals := 162 }
theorem w_X6_silence_b51 {C : zC} (hx : z_ok C cX6_silence RX6 1) (hn : z_nL C = 4) (hR : z_R C = rm_X6_silence) {rr : Int × zS} (hq : z_fin C (some .int) (z_QI (z_g C) rr.1 rr.2)) {K10 : zS → Int → Int → Int → Option (Int × zS)} (hK10 : ∀ (σ : zS) (x1 : Int) (x2 : Int) (x3 : Int) , K10 σ x1 x2 x3 = some rr → z_W C σ 10 [(0, .ref (z_ad (z_g C) 0)), (1, .int (zi x1)), (2, .int (zi x2)), (3, .int (zi x3))] []) (σ : zS) (x2 : Int) (x3 : Int) (s0 : Int) (h : f_X6_silence_b51 K10 σ x2 x3 s0 = some rr) : z_W C σ 51 [(0, .ref (z_ad (z_g C) 0)), (2, .int (zi x2)), (3, .int (zi x3))] [.int (zi s0)] := by
  unfold f_X6_silence_b51 at h
  refine z_istore_n hx hn (lv' := [(1, .int (zi s0)), (0, .ref (z_ad (z_g C) 0)), (2, .int (zi x2)), (3, .int (zi x3))]) dX6_silence_51 (by decide) rfl ?_
  refine z_iinc hx hn 3 (lv' := [(3, .int (zi (x3 + 1))), (1, .int (zi s0)), (0, .ref (z_ad (z_g C) 0)), (2, .int (zi x2))]) dX6_silence_52 rfl (by decide) rfl ?_
  refine z_goto hx (tgt := 10) dX6_silence_55 (by decide) ?_
  refine z_sub [2, 1, 3, 0] rfl ?_
  exact hK10 σ s0 x2 (x3 + 1) h

theorem w_X6_silence_b40 {C : zC} (hx : z_ok C cX6_silence RX6 1) (hn : z_nL C = 4) (hR : z_R C = rm_X6_silence) {rr : Int × zS} (hq : z_fin C (some .int) (z_QI (z_g C) rr.1 rr.2)) {K10 : zS → Int → Int → Int → Option (Int × zS)} (hK10 : ∀ (σ : zS) (x1 : Int) (x2 : Int) (x3 : Int) , K10 σ x1 x2 x3 = some rr → z_W C σ 10 [(0, .ref (z_ad (z_g C) 0)), (1, .int (zi x1)), (2, .int (zi x2)), (3, .int (zi x3))] []) (σ : zS) (x1 : Int) (x3 : Int) (s0 : Int) (h : f_X6_silence_b40 K10 σ x1 x3 s0 = some rr) : z_W C σ 40 [(0, .ref (z_ad (z_g C) 0)), (1, .int (zi x1)), (3, .int (zi x3))] [.int (zi s0)] := by
  unfold f_X6_silence_b40 at h
  refine z_istore_n hx hn (lv' := [(2, .int (zi s0)), (0, .ref (z_ad (z_g C) 0)), (1, .int (zi x1)), (3, .int (zi x3))]) dX6_silence_40 (by decide) rfl ?_
  refine z_iload_n hx 0 dX6_silence_41 rfl ?_
  refine z_iload_n hx 2 dX6_silence_42 rfl ?_
  refine z_icmp_le hx (tgt := 50) dX6_silence_43 (by decide) h (fun h => h) (fun hc h => ?_) (fun hc h => ?_)
  · refine z_iload_n hx 2 dX6_silence_50 rfl ?_
    refine z_sub [1, 0, 3] rfl ?_
    exact w_X6_silence_b51 hx hn hR hq hK10 σ s0 x3 x1 h
  · refine z_iload_n hx 0 dX6_silence_46 rfl ?_
    refine z_goto hx (tgt := 51) dX6_silence_47 (by decide) ?_
    refine z_sub [1, 0, 3] rfl ?_
    exact w_X6_silence_b51 hx hn hR hq hK10 σ s0 x3 s0 h

theorem w_X6_silence_b10 {C : zC} (hx : z_ok C cX6_silence RX6 1) (hn : z_nL C = 4) (hR : z_R C = rm_X6_silence) {rr : Int × zS} (hq : z_fin C (some .int) (z_QI (z_g C) rr.1 rr.2)) {K10 : zS → Int → Int → Int → Option (Int × zS)} (hK10 : ∀ (σ : zS) (x1 : Int) (x2 : Int) (x3 : Int) , K10 σ x1 x2 x3 = some rr → z_W C σ 10 [(0, .ref (z_ad (z_g C) 0)), (1, .int (zi x1)), (2, .int (zi x2)), (3, .int (zi x3))] []) (σ : zS) (x1 : Int) (x2 : Int) (x3 : Int) (h : f_X6_silence_b10 K10 σ x1 x2 x3 = some rr) : z_W C σ 10 [(0, .ref (z_ad (z_g C) 0)), (1, .int (zi x1)), (2, .int (zi x2)), (3, .int (zi x3))] [] := by
  unfold f_X6_silence_b10 at h
  refine z_iload_n hx 3 dX6_silence_10 rfl ?_
  refine z_aload_n hx 0 dX6_silence_11 rfl ?_
  refine gf_X6_heardMany hx wf_X6_135 dX6_silence_12 ?_
  refine z_icmp_ge hx (tgt := 58) dX6_silence_15 (by decide) h (fun h => h) (fun hc h => ?_) (fun hc h => ?_)
  · refine z_iload_n hx 1 dX6_silence_58 rfl ?_
    cases h
    exact z_iret hx hq dX6_silence_59
  · refine z_aload_n hx 0 dX6_silence_18 rfl ?_
    refine gf_X6_heardLevel hx wf_X6_31 dX6_silence_19 ?_
    refine z_iload_n hx 3 dX6_silence_22 rfl ?_
    refine z_iald hx (n := 1400) (z_lt1 (z_ok_sd hx) (by decide)) (z_kc8 (z_ok_sd hx) _) rfl (by decide) dX6_silence_23 h (fun h => ?_)
    refine z_aload_n hx 0 dX6_silence_24 rfl ?_
    refine gf_X6_v hx wf_X6_7 dX6_silence_25 ?_
    refine z_iconst hx (n := 1) dX6_silence_28 ?_
    refine z_iald hx (n := 320) (z_lt1 (z_ok_sd hx) (by decide)) (z_kc1 (z_ok_sd hx) _) rfl (by decide) dX6_silence_29 h (fun h => ?_)
    refine z_icmp_gt hx (tgt := 39) dX6_silence_30 (by decide) h (fun h => h) (fun hc h => ?_) (fun hc h => ?_)
    · refine z_iconst hx (n := 0) dX6_silence_39 ?_
      refine z_sub [0, 1, 3] rfl ?_
      exact w_X6_silence_b40 hx hn hR hq hK10 σ x1 x3 0 h
    · refine z_iload_n hx 2 dX6_silence_33 rfl ?_
      refine z_iconst hx (n := 1) dX6_silence_34 ?_
      refine z_iadd hx dX6_silence_35 ?_
      refine z_goto hx (tgt := 40) dX6_silence_36 (by decide) ?_
      refine z_sub [0, 1, 3] rfl ?_
      exact w_X6_silence_b40 hx hn hR hq hK10 σ x1 x3 (x2 + 1) h

theorem w_X6_silence_l10 {C : zC} (hx : z_ok C cX6_silence RX6 1) (hn : z_nL C = 4) (hR : z_R C = rm_X6_silence) {rr : Int × zS} (hq : z_fin C (some .int) (z_QI (z_g C) rr.1 rr.2)) : ∀ (n : Nat) (σ : zS) (x1 : Int) (x2 : Int) (x3 : Int) (_ : f_X6_silence_l10 n σ x1 x2 x3 = some rr), z_W C σ 10 [(0, .ref (z_ad (z_g C) 0)), (1, .int (zi x1)), (2, .int (zi x2)), (3, .int (zi x3))] [] := by
  intro n
  induction n with
  | zero => intro σ x1 x2 x3 h; cases h
  | succ n ih =>
    intro σ x1 x2 x3 h
    exact w_X6_silence_b10 hx hn hR hq ih σ x1 x2 x3 h
theorem w_X6_silence {C : zC} (hx : z_ok C cX6_silence RX6 1) (hn : z_nL C = 4) (hR : z_R C = rm_X6_silence) {rr : Int × zS} (hq : z_fin C (some .int) (z_QI (z_g C) rr.1 rr.2)) (σ : zS) (h : f_X6_silence σ = some rr) : z_W C σ 0 [(0, .ref (z_ad (z_g C) 0))] [] := by
  unfold f_X6_silence at h
  refine z_aload_n hx 0 dX6_silence_0 rfl ?_
  obtain ⟨⟨⟩, σ1, h1, h⟩ := z_bind_some h
  refine z_callv hx (As := []) (k := 0) (met_X6_plays (z_l C) (z_g C) (z_ok_sd hx) h1) (z_lt1 (z_ok_sd hx) (by decide)) (z_kc0 (z_ok_sd hx) _) rfl rfl cv_X6_154 (z_room hR ⟨Nat.le_of_ble_eq_true rfl, Nat.le_of_ble_eq_true rfl⟩) ⟨rfl, rfl⟩ rfl rfl (Nat.le_of_ble_eq_true rfl) dX6_silence_1 ?_
  refine z_iconst hx (n := 0) dX6_silence_4 ?_
  refine z_istore_n hx hn (lv' := [(1, .int (zi 0)), (0, .ref (z_ad (z_g C) 0))]) dX6_silence_5 (by decide) rfl ?_
  refine z_iconst hx (n := 0) dX6_silence_6 ?_
  refine z_istore_n hx hn (lv' := [(2, .int (zi 0)), (1, .int (zi 0)), (0, .ref (z_ad (z_g C) 0))]) dX6_silence_7 (by decide) rfl ?_
  refine z_iconst hx (n := 0) dX6_silence_8 ?_
  refine z_istore_n hx hn (lv' := [(3, .int (zi 0)), (2, .int (zi 0)), (1, .int (zi 0)), (0, .ref (z_ad (z_g C) 0))]) dX6_silence_9 (by decide) rfl ?_
  refine z_sub [3, 2, 1, 0] rfl ?_
  exact w_X6_silence_l10 hx hn hR hq z_fuel σ1 0 0 0 h

theorem met_X6_silence (l : Launch) (g : zG) (hg : g.1 = 1) {σ : zS} {rr : Int × zS} (h : f_X6_silence σ = some rr) : z_Met l yX6_silence cX6_silence 4 (some .int) rm_X6_silence g [.ref (z_ad (g) 0)] σ (z_QI g rr.1 rr.2) := by
  refine z_enter (own := RX6) (sd := 1) (lv0 := [(0, .ref (z_ad (g) 0))]) (by decide) rfl (Nat.le_of_ble_eq_true rfl) hg rfl (fun C hx hl hgC hR hn hq => ?_)
  subst hgC
  refine z_sub [0] rfl ?_
  exact w_X6_silence hx hn hR hq σ h
theorem dX6_undo_0 : decode cX6_undo 0 = .ok (.aload_n 0, 1) := by decide +kernel
theorem dX6_undo_1 : decode cX6_undo 1 = .ok (.getfield 37, 3) := by decide +kernel
theorem dX6_undo_4 : decode cX6_undo 4 = .ok (.ifCond .ne 6, 3) := by decide +kernel
theorem dX6_undo_7 : decode cX6_undo 7 = .ok (.bipush (-9), 2) := by decide +kernel
theorem dX6_undo_9 : decode cX6_undo 9 = .ok (.ireturn, 1) := by decide +kernel
theorem dX6_undo_10 : decode cX6_undo 10 = .ok (.aload_n 0, 1) := by decide +kernel
theorem dX6_undo_11 : decode cX6_undo 11 = .ok (.dup, 1) := by decide +kernel
theorem dX6_undo_12 : decode cX6_undo 12 = .ok (.getfield 37, 3) := by decide +kernel
theorem dX6_undo_15 : decode cX6_undo 15 = .ok (.iconst 1, 1) := by decide +kernel
theorem dX6_undo_16 : decode cX6_undo 16 = .ok (.isub, 1) := by decide +kernel
theorem dX6_undo_17 : decode cX6_undo 17 = .ok (.putfield 37, 3) := by decide +kernel
theorem dX6_undo_20 : decode cX6_undo 20 = .ok (.iconst 0, 1) := by decide +kernel
theorem dX6_undo_21 : decode cX6_undo 21 = .ok (.istore_n 1, 1) := by decide +kernel
theorem dX6_undo_22 : decode cX6_undo 22 = .ok (.iload_n 1, 1) := by decide +kernel
theorem dX6_undo_23 : decode cX6_undo 23 = .ok (.sipush 320, 3) := by decide +kernel
theorem dX6_undo_26 : decode cX6_undo 26 = .ok (.if_icmp .ge 30, 3) := by decide +kernel
theorem dX6_undo_29 : decode cX6_undo 29 = .ok (.aload_n 0, 1) := by decide +kernel
theorem dX6_undo_30 : decode cX6_undo 30 = .ok (.getfield 7, 3) := by decide +kernel
theorem dX6_undo_33 : decode cX6_undo 33 = .ok (.iload_n 1, 1) := by decide +kernel
theorem dX6_undo_34 : decode cX6_undo 34 = .ok (.aload_n 0, 1) := by decide +kernel
theorem dX6_undo_35 : decode cX6_undo 35 = .ok (.getfield 13, 3) := by decide +kernel
theorem dX6_undo_38 : decode cX6_undo 38 = .ok (.sipush 320, 3) := by decide +kernel
theorem dX6_undo_41 : decode cX6_undo 41 = .ok (.aload_n 0, 1) := by decide +kernel
theorem dX6_undo_42 : decode cX6_undo 42 = .ok (.getfield 37, 3) := by decide +kernel
theorem dX6_undo_45 : decode cX6_undo 45 = .ok (.imul, 1) := by decide +kernel
theorem dX6_undo_46 : decode cX6_undo 46 = .ok (.iload_n 1, 1) := by decide +kernel
theorem dX6_undo_47 : decode cX6_undo 47 = .ok (.iadd, 1) := by decide +kernel
theorem dX6_undo_48 : decode cX6_undo 48 = .ok (.iaload, 1) := by decide +kernel
theorem dX6_undo_49 : decode cX6_undo 49 = .ok (.iastore, 1) := by decide +kernel
theorem dX6_undo_50 : decode cX6_undo 50 = .ok (.iinc 1 1, 3) := by decide +kernel
theorem dX6_undo_53 : decode cX6_undo 53 = .ok (.goto (-31), 3) := by decide +kernel
theorem dX6_undo_56 : decode cX6_undo 56 = .ok (.aload_n 0, 1) := by decide +kernel
theorem dX6_undo_57 : decode cX6_undo 57 = .ok (.getfield 37, 3) := by decide +kernel
theorem dX6_undo_60 : decode cX6_undo 60 = .ok (.ireturn, 1) := by decide +kernel
abbrev rm_X6_undo : Room := { frames := 0, cells := 0, slots := 0, locals := 0 }
theorem w_X6_undo_b22 {C : zC} (hx : z_ok C cX6_undo RX6 1) (hn : z_nL C = 2) (hR : z_R C = rm_X6_undo) {rr : Int × zS} (hq : z_fin C (some .int) (z_QI (z_g C) rr.1 rr.2)) {K22 : zS → Int → Option (Int × zS)} (hK22 : ∀ (σ : zS) (x1 : Int) , K22 σ x1 = some rr → z_W C σ 22 [(0, .ref (z_ad (z_g C) 0)), (1, .int (zi x1))] []) (σ : zS) (x1 : Int) (h : f_X6_undo_b22 K22 σ x1 = some rr) : z_W C σ 22 [(0, .ref (z_ad (z_g C) 0)), (1, .int (zi x1))] [] := by
  unfold f_X6_undo_b22 at h
  refine z_iload_n hx 1 dX6_undo_22 rfl ?_
  refine z_sipush hx (n := 320) dX6_undo_23 rfl ?_
  refine z_icmp_ge hx (tgt := 56) dX6_undo_26 (by decide) h (fun h => ⟨h, by decide⟩) (fun hc h => ?_) (fun hc h => ?_)
  · refine z_aload_n hx 0 dX6_undo_56 rfl ?_
    refine gf_X6_pastMany hx wf_X6_37 dX6_undo_57 ?_
    cases h
    exact z_iret hx hq dX6_undo_60
  · refine z_aload_n hx 0 dX6_undo_29 rfl ?_
    refine gf_X6_v hx wf_X6_7 dX6_undo_30 ?_
    refine z_iload_n hx 1 dX6_undo_33 rfl ?_
    refine z_aload_n hx 0 dX6_undo_34 rfl ?_
    refine gf_X6_past hx wf_X6_13 dX6_undo_35 ?_
    refine z_sipush hx (n := 320) dX6_undo_38 rfl ?_
    refine z_aload_n hx 0 dX6_undo_41 rfl ?_
    refine gf_X6_pastMany hx wf_X6_37 dX6_undo_42 ?_
    refine z_imul hx dX6_undo_45 ?_
    refine z_iload_n hx 1 dX6_undo_46 rfl ?_
    refine z_iadd hx dX6_undo_47 ?_
    refine z_iald hx (n := 1280) (z_lt1 (z_ok_sd hx) (by decide)) (z_kc2 (z_ok_sd hx) _) rfl (by decide) dX6_undo_48 h (fun h => ?_)
    refine z_iast hx (n := 320) (z_lt1 (z_ok_sd hx) (by decide)) (z_kc1 (z_ok_sd hx)) rfl (by decide) dX6_undo_49 h (fun σ1 h => ?_)
    refine z_iinc hx hn 1 (lv' := [(1, .int (zi (x1 + 1))), (0, .ref (z_ad (z_g C) 0))]) dX6_undo_50 rfl (by decide) rfl ?_
    refine z_goto hx (tgt := 22) dX6_undo_53 (by decide) ?_
    refine z_sub [1, 0] rfl ?_
    exact hK22 σ1 (x1 + 1) h

theorem w_X6_undo_l22 {C : zC} (hx : z_ok C cX6_undo RX6 1) (hn : z_nL C = 2) (hR : z_R C = rm_X6_undo) {rr : Int × zS} (hq : z_fin C (some .int) (z_QI (z_g C) rr.1 rr.2)) : ∀ (n : Nat) (σ : zS) (x1 : Int) (_ : f_X6_undo_l22 n σ x1 = some rr), z_W C σ 22 [(0, .ref (z_ad (z_g C) 0)), (1, .int (zi x1))] [] := by
  intro n
  induction n with
  | zero => intro σ x1 h; cases h
  | succ n ih =>
    intro σ x1 h
    exact w_X6_undo_b22 hx hn hR hq ih σ x1 h
theorem w_X6_undo {C : zC} (hx : z_ok C cX6_undo RX6 1) (hn : z_nL C = 2) (hR : z_R C = rm_X6_undo) {rr : Int × zS} (hq : z_fin C (some .int) (z_QI (z_g C) rr.1 rr.2)) (σ : zS) (h : f_X6_undo σ = some rr) : z_W C σ 0 [(0, .ref (z_ad (z_g C) 0))] [] := by
  unfold f_X6_undo at h
  refine z_aload_n hx 0 dX6_undo_0 rfl ?_
  refine gf_X6_pastMany hx wf_X6_37 dX6_undo_1 ?_
  refine z_if_ne hx (tgt := 10) dX6_undo_4 (by decide) h (fun h => h) (fun hc h => ?_) (fun hc h => ?_)
  · refine z_aload_n hx 0 dX6_undo_10 rfl ?_
    refine z_dup hx dX6_undo_11 rfl ?_
    refine gf_X6_pastMany hx wf_X6_37 dX6_undo_12 ?_
    refine z_iconst hx (n := 1) dX6_undo_15 ?_
    refine z_isub hx dX6_undo_16 ?_
    refine pf_X6_pastMany hx wf_X6_37 dX6_undo_17 h (fun σ1 h => ?_)
    refine z_iconst hx (n := 0) dX6_undo_20 ?_
    refine z_istore_n hx hn (lv' := [(1, .int (zi 0)), (0, .ref (z_ad (z_g C) 0))]) dX6_undo_21 (by decide) rfl ?_
    refine z_sub [1, 0] rfl ?_
    exact w_X6_undo_l22 hx hn hR hq z_fuel σ1 0 h
  · refine z_bipush hx (n := (-9)) dX6_undo_7 rfl ?_
    cases h
    exact z_iret hx hq dX6_undo_9

theorem met_X6_undo (l : Launch) (g : zG) (hg : g.1 = 1) {σ : zS} {rr : Int × zS} (h : f_X6_undo σ = some rr) : z_Met l yX6_undo cX6_undo 2 (some .int) rm_X6_undo g [.ref (z_ad (g) 0)] σ (z_QI g rr.1 rr.2) := by
  refine z_enter (own := RX6) (sd := 1) (lv0 := [(0, .ref (z_ad (g) 0))]) (by decide) rfl (Nat.le_of_ble_eq_true rfl) hg rfl (fun C hx hl hgC hR hn hq => ?_)
  subst hgC
  refine z_sub [0] rfl ?_
  exact w_X6_undo hx hn hR hq σ h
theorem dX6_fingerprint_0 : decode cX6_fingerprint 0 = .ok (.aload_n 0, 1) := by decide +kernel
theorem dX6_fingerprint_1 : decode cX6_fingerprint 1 = .ok (.invokevirtual 154, 3) := by decide +kernel
theorem dX6_fingerprint_4 : decode cX6_fingerprint 4 = .ok (.ldc2_w 157, 3) := by decide +kernel
theorem dX6_fingerprint_7 : decode cX6_fingerprint 7 = .ok (.lstore_n 1, 1) := by decide +kernel
theorem dX6_fingerprint_8 : decode cX6_fingerprint 8 = .ok (.iconst 0, 1) := by decide +kernel
theorem dX6_fingerprint_9 : decode cX6_fingerprint 9 = .ok (.istore_n 3, 1) := by decide +kernel
theorem dX6_fingerprint_10 : decode cX6_fingerprint 10 = .ok (.iload_n 3, 1) := by decide +kernel
theorem dX6_fingerprint_11 : decode cX6_fingerprint 11 = .ok (.bipush 9, 2) := by decide +kernel
theorem dX6_fingerprint_13 : decode cX6_fingerprint 13 = .ok (.if_icmp .ge 23, 3) := by decide +kernel
theorem dX6_fingerprint_16 : decode cX6_fingerprint 16 = .ok (.ldc2_w 159, 3) := by decide +kernel
theorem dX6_fingerprint_19 : decode cX6_fingerprint 19 = .ok (.lload_n 1, 1) := by decide +kernel
theorem dX6_fingerprint_20 : decode cX6_fingerprint 20 = .ok (.lmul, 1) := by decide +kernel
theorem dX6_fingerprint_21 : decode cX6_fingerprint 21 = .ok (.aload_n 0, 1) := by decide +kernel
theorem dX6_fingerprint_22 : decode cX6_fingerprint 22 = .ok (.getfield 7, 3) := by decide +kernel
theorem dX6_fingerprint_25 : decode cX6_fingerprint 25 = .ok (.iload_n 3, 1) := by decide +kernel
theorem dX6_fingerprint_26 : decode cX6_fingerprint 26 = .ok (.iaload, 1) := by decide +kernel
theorem dX6_fingerprint_27 : decode cX6_fingerprint 27 = .ok (.i2l, 1) := by decide +kernel
theorem dX6_fingerprint_28 : decode cX6_fingerprint 28 = .ok (.ladd, 1) := by decide +kernel
theorem dX6_fingerprint_29 : decode cX6_fingerprint 29 = .ok (.lstore_n 1, 1) := by decide +kernel
theorem dX6_fingerprint_30 : decode cX6_fingerprint 30 = .ok (.iinc 3 1, 3) := by decide +kernel
theorem dX6_fingerprint_33 : decode cX6_fingerprint 33 = .ok (.goto (-23), 3) := by decide +kernel
theorem dX6_fingerprint_36 : decode cX6_fingerprint 36 = .ok (.iconst 0, 1) := by decide +kernel
theorem dX6_fingerprint_37 : decode cX6_fingerprint 37 = .ok (.istore_n 3, 1) := by decide +kernel
theorem dX6_fingerprint_38 : decode cX6_fingerprint 38 = .ok (.iload_n 3, 1) := by decide +kernel
theorem dX6_fingerprint_39 : decode cX6_fingerprint 39 = .ok (.aload_n 0, 1) := by decide +kernel
theorem dX6_fingerprint_40 : decode cX6_fingerprint 40 = .ok (.getfield 7, 3) := by decide +kernel
theorem dX6_fingerprint_43 : decode cX6_fingerprint 43 = .ok (.bipush 7, 2) := by decide +kernel
theorem dX6_fingerprint_45 : decode cX6_fingerprint 45 = .ok (.iaload, 1) := by decide +kernel
theorem dX6_fingerprint_46 : decode cX6_fingerprint 46 = .ok (.if_icmp .ge 26, 3) := by decide +kernel
theorem dX6_fingerprint_49 : decode cX6_fingerprint 49 = .ok (.ldc2_w 159, 3) := by decide +kernel
theorem dX6_fingerprint_52 : decode cX6_fingerprint 52 = .ok (.lload_n 1, 1) := by decide +kernel
theorem dX6_fingerprint_53 : decode cX6_fingerprint 53 = .ok (.lmul, 1) := by decide +kernel
theorem dX6_fingerprint_54 : decode cX6_fingerprint 54 = .ok (.aload_n 0, 1) := by decide +kernel
theorem dX6_fingerprint_55 : decode cX6_fingerprint 55 = .ok (.getfield 7, 3) := by decide +kernel
theorem dX6_fingerprint_58 : decode cX6_fingerprint 58 = .ok (.bipush 10, 2) := by decide +kernel
theorem dX6_fingerprint_60 : decode cX6_fingerprint 60 = .ok (.iload_n 3, 1) := by decide +kernel
theorem dX6_fingerprint_61 : decode cX6_fingerprint 61 = .ok (.iadd, 1) := by decide +kernel
theorem dX6_fingerprint_62 : decode cX6_fingerprint 62 = .ok (.iaload, 1) := by decide +kernel
theorem dX6_fingerprint_63 : decode cX6_fingerprint 63 = .ok (.i2l, 1) := by decide +kernel
theorem dX6_fingerprint_64 : decode cX6_fingerprint 64 = .ok (.ladd, 1) := by decide +kernel
theorem dX6_fingerprint_65 : decode cX6_fingerprint 65 = .ok (.lstore_n 1, 1) := by decide +kernel
theorem dX6_fingerprint_66 : decode cX6_fingerprint 66 = .ok (.iinc 3 1, 3) := by decide +kernel
theorem dX6_fingerprint_69 : decode cX6_fingerprint 69 = .ok (.goto (-31), 3) := by decide +kernel
theorem dX6_fingerprint_72 : decode cX6_fingerprint 72 = .ok (.iconst 0, 1) := by decide +kernel
theorem dX6_fingerprint_73 : decode cX6_fingerprint 73 = .ok (.istore_n 3, 1) := by decide +kernel
theorem dX6_fingerprint_74 : decode cX6_fingerprint 74 = .ok (.iload_n 3, 1) := by decide +kernel
theorem dX6_fingerprint_75 : decode cX6_fingerprint 75 = .ok (.aload_n 0, 1) := by decide +kernel
theorem dX6_fingerprint_76 : decode cX6_fingerprint 76 = .ok (.getfield 7, 3) := by decide +kernel
theorem dX6_fingerprint_79 : decode cX6_fingerprint 79 = .ok (.bipush 8, 2) := by decide +kernel
theorem dX6_fingerprint_81 : decode cX6_fingerprint 81 = .ok (.iaload, 1) := by decide +kernel
theorem dX6_fingerprint_82 : decode cX6_fingerprint 82 = .ok (.if_icmp .ge 40, 3) := by decide +kernel
theorem dX6_fingerprint_85 : decode cX6_fingerprint 85 = .ok (.iconst 0, 1) := by decide +kernel
theorem dX6_fingerprint_86 : decode cX6_fingerprint 86 = .ok (.istore 4, 2) := by decide +kernel
theorem dX6_fingerprint_88 : decode cX6_fingerprint 88 = .ok (.iload 4, 2) := by decide +kernel
theorem dX6_fingerprint_90 : decode cX6_fingerprint 90 = .ok (.bipush 6, 2) := by decide +kernel
theorem dX6_fingerprint_92 : decode cX6_fingerprint 92 = .ok (.if_icmp .ge 24, 3) := by decide +kernel
theorem dX6_fingerprint_95 : decode cX6_fingerprint 95 = .ok (.ldc2_w 159, 3) := by decide +kernel
theorem dX6_fingerprint_98 : decode cX6_fingerprint 98 = .ok (.lload_n 1, 1) := by decide +kernel
theorem dX6_fingerprint_99 : decode cX6_fingerprint 99 = .ok (.lmul, 1) := by decide +kernel
theorem dX6_fingerprint_100 : decode cX6_fingerprint 100 = .ok (.aload_n 0, 1) := by decide +kernel
theorem dX6_fingerprint_101 : decode cX6_fingerprint 101 = .ok (.iload_n 3, 1) := by decide +kernel
theorem dX6_fingerprint_102 : decode cX6_fingerprint 102 = .ok (.iload 4, 2) := by decide +kernel
theorem dX6_fingerprint_104 : decode cX6_fingerprint 104 = .ok (.invokevirtual 129, 3) := by decide +kernel
theorem dX6_fingerprint_107 : decode cX6_fingerprint 107 = .ok (.i2l, 1) := by decide +kernel
theorem dX6_fingerprint_108 : decode cX6_fingerprint 108 = .ok (.ladd, 1) := by decide +kernel
theorem dX6_fingerprint_109 : decode cX6_fingerprint 109 = .ok (.lstore_n 1, 1) := by decide +kernel
theorem dX6_fingerprint_110 : decode cX6_fingerprint 110 = .ok (.iinc 4 1, 3) := by decide +kernel
theorem dX6_fingerprint_113 : decode cX6_fingerprint 113 = .ok (.goto (-25), 3) := by decide +kernel
theorem dX6_fingerprint_116 : decode cX6_fingerprint 116 = .ok (.iinc 3 1, 3) := by decide +kernel
theorem dX6_fingerprint_119 : decode cX6_fingerprint 119 = .ok (.goto (-45), 3) := by decide +kernel
theorem dX6_fingerprint_122 : decode cX6_fingerprint 122 = .ok (.ldc2_w 159, 3) := by decide +kernel
theorem dX6_fingerprint_125 : decode cX6_fingerprint 125 = .ok (.lload_n 1, 1) := by decide +kernel
theorem dX6_fingerprint_126 : decode cX6_fingerprint 126 = .ok (.lmul, 1) := by decide +kernel
theorem dX6_fingerprint_127 : decode cX6_fingerprint 127 = .ok (.aload_n 0, 1) := by decide +kernel
theorem dX6_fingerprint_128 : decode cX6_fingerprint 128 = .ok (.getfield 108, 3) := by decide +kernel
theorem dX6_fingerprint_131 : decode cX6_fingerprint 131 = .ok (.i2l, 1) := by decide +kernel
theorem dX6_fingerprint_132 : decode cX6_fingerprint 132 = .ok (.ladd, 1) := by decide +kernel
theorem dX6_fingerprint_133 : decode cX6_fingerprint 133 = .ok (.lstore_n 1, 1) := by decide +kernel
theorem dX6_fingerprint_134 : decode cX6_fingerprint 134 = .ok (.iconst 0, 1) := by decide +kernel
theorem dX6_fingerprint_135 : decode cX6_fingerprint 135 = .ok (.istore_n 3, 1) := by decide +kernel
theorem dX6_fingerprint_136 : decode cX6_fingerprint 136 = .ok (.iload_n 3, 1) := by decide +kernel
theorem dX6_fingerprint_137 : decode cX6_fingerprint 137 = .ok (.iconst 5, 1) := by decide +kernel
theorem dX6_fingerprint_138 : decode cX6_fingerprint 138 = .ok (.aload_n 0, 1) := by decide +kernel
theorem dX6_fingerprint_139 : decode cX6_fingerprint 139 = .ok (.getfield 108, 3) := by decide +kernel
theorem dX6_fingerprint_142 : decode cX6_fingerprint 142 = .ok (.imul, 1) := by decide +kernel
theorem dX6_fingerprint_143 : decode cX6_fingerprint 143 = .ok (.if_icmp .ge 23, 3) := by decide +kernel
theorem dX6_fingerprint_146 : decode cX6_fingerprint 146 = .ok (.ldc2_w 159, 3) := by decide +kernel
theorem dX6_fingerprint_149 : decode cX6_fingerprint 149 = .ok (.lload_n 1, 1) := by decide +kernel
theorem dX6_fingerprint_150 : decode cX6_fingerprint 150 = .ok (.lmul, 1) := by decide +kernel
theorem dX6_fingerprint_151 : decode cX6_fingerprint 151 = .ok (.aload_n 0, 1) := by decide +kernel
theorem dX6_fingerprint_152 : decode cX6_fingerprint 152 = .ok (.getfield 25, 3) := by decide +kernel
theorem dX6_fingerprint_155 : decode cX6_fingerprint 155 = .ok (.iload_n 3, 1) := by decide +kernel
theorem dX6_fingerprint_156 : decode cX6_fingerprint 156 = .ok (.iaload, 1) := by decide +kernel
theorem dX6_fingerprint_157 : decode cX6_fingerprint 157 = .ok (.i2l, 1) := by decide +kernel
theorem dX6_fingerprint_158 : decode cX6_fingerprint 158 = .ok (.ladd, 1) := by decide +kernel
theorem dX6_fingerprint_159 : decode cX6_fingerprint 159 = .ok (.lstore_n 1, 1) := by decide +kernel
theorem dX6_fingerprint_160 : decode cX6_fingerprint 160 = .ok (.iinc 3 1, 3) := by decide +kernel
theorem dX6_fingerprint_163 : decode cX6_fingerprint 163 = .ok (.goto (-27), 3) := by decide +kernel
theorem dX6_fingerprint_166 : decode cX6_fingerprint 166 = .ok (.ldc2_w 159, 3) := by decide +kernel
theorem dX6_fingerprint_169 : decode cX6_fingerprint 169 = .ok (.lload_n 1, 1) := by decide +kernel
theorem dX6_fingerprint_170 : decode cX6_fingerprint 170 = .ok (.lmul, 1) := by decide +kernel
theorem dX6_fingerprint_171 : decode cX6_fingerprint 171 = .ok (.aload_n 0, 1) := by decide +kernel
theorem dX6_fingerprint_172 : decode cX6_fingerprint 172 = .ok (.getfield 135, 3) := by decide +kernel
theorem dX6_fingerprint_175 : decode cX6_fingerprint 175 = .ok (.i2l, 1) := by decide +kernel
theorem dX6_fingerprint_176 : decode cX6_fingerprint 176 = .ok (.ladd, 1) := by decide +kernel
theorem dX6_fingerprint_177 : decode cX6_fingerprint 177 = .ok (.lstore_n 1, 1) := by decide +kernel
theorem dX6_fingerprint_178 : decode cX6_fingerprint 178 = .ok (.iconst 0, 1) := by decide +kernel
theorem dX6_fingerprint_179 : decode cX6_fingerprint 179 = .ok (.istore_n 3, 1) := by decide +kernel
theorem dX6_fingerprint_180 : decode cX6_fingerprint 180 = .ok (.iload_n 3, 1) := by decide +kernel
theorem dX6_fingerprint_181 : decode cX6_fingerprint 181 = .ok (.aload_n 0, 1) := by decide +kernel
theorem dX6_fingerprint_182 : decode cX6_fingerprint 182 = .ok (.getfield 135, 3) := by decide +kernel
theorem dX6_fingerprint_185 : decode cX6_fingerprint 185 = .ok (.if_icmp .ge 35, 3) := by decide +kernel
theorem dX6_fingerprint_188 : decode cX6_fingerprint 188 = .ok (.ldc2_w 159, 3) := by decide +kernel
theorem dX6_fingerprint_191 : decode cX6_fingerprint 191 = .ok (.ldc2_w 159, 3) := by decide +kernel
theorem dX6_fingerprint_194 : decode cX6_fingerprint 194 = .ok (.lload_n 1, 1) := by decide +kernel
theorem dX6_fingerprint_195 : decode cX6_fingerprint 195 = .ok (.lmul, 1) := by decide +kernel
theorem dX6_fingerprint_196 : decode cX6_fingerprint 196 = .ok (.aload_n 0, 1) := by decide +kernel
theorem dX6_fingerprint_197 : decode cX6_fingerprint 197 = .ok (.getfield 28, 3) := by decide +kernel
theorem dX6_fingerprint_200 : decode cX6_fingerprint 200 = .ok (.iload_n 3, 1) := by decide +kernel
theorem dX6_fingerprint_201 : decode cX6_fingerprint 201 = .ok (.iaload, 1) := by decide +kernel
theorem dX6_fingerprint_202 : decode cX6_fingerprint 202 = .ok (.i2l, 1) := by decide +kernel
theorem dX6_fingerprint_203 : decode cX6_fingerprint 203 = .ok (.ladd, 1) := by decide +kernel
theorem dX6_fingerprint_204 : decode cX6_fingerprint 204 = .ok (.lmul, 1) := by decide +kernel
theorem dX6_fingerprint_205 : decode cX6_fingerprint 205 = .ok (.aload_n 0, 1) := by decide +kernel
theorem dX6_fingerprint_206 : decode cX6_fingerprint 206 = .ok (.getfield 31, 3) := by decide +kernel
theorem dX6_fingerprint_209 : decode cX6_fingerprint 209 = .ok (.iload_n 3, 1) := by decide +kernel
theorem dX6_fingerprint_210 : decode cX6_fingerprint 210 = .ok (.iaload, 1) := by decide +kernel
theorem dX6_fingerprint_211 : decode cX6_fingerprint 211 = .ok (.i2l, 1) := by decide +kernel
theorem dX6_fingerprint_212 : decode cX6_fingerprint 212 = .ok (.ladd, 1) := by decide +kernel
theorem dX6_fingerprint_213 : decode cX6_fingerprint 213 = .ok (.lstore_n 1, 1) := by decide +kernel
theorem dX6_fingerprint_214 : decode cX6_fingerprint 214 = .ok (.iinc 3 1, 3) := by decide +kernel
theorem dX6_fingerprint_217 : decode cX6_fingerprint 217 = .ok (.goto (-37), 3) := by decide +kernel
theorem dX6_fingerprint_220 : decode cX6_fingerprint 220 = .ok (.lload_n 1, 1) := by decide +kernel
theorem dX6_fingerprint_221 : decode cX6_fingerprint 221 = .ok (.lreturn, 1) := by decide +kernel
abbrev rm_X6_fingerprint : Room := { frames := 7, cells := 0, slots := 0, locals := 162 }
theorem w_X6_fingerprint_b180 {C : zC} (hx : z_ok C cX6_fingerprint RX6 1) (hn : z_nL C = 5) (hR : z_R C = rm_X6_fingerprint) {rr : Int × zS} (hq : z_fin C (some .long) (z_QL (z_g C) rr.1 rr.2)) {K180 : zS → Int → Int → Option (Int × zS)} (hK180 : ∀ (σ : zS) (y1 : Int) (x3 : Int) , K180 σ y1 x3 = some rr → z_W C σ 180 [(0, .ref (z_ad (z_g C) 0)), (1, .long (zl y1)), (3, .int (zi x3))] []) (σ : zS) (y1 : Int) (x3 : Int) (h : f_X6_fingerprint_b180 K180 σ y1 x3 = some rr) : z_W C σ 180 [(0, .ref (z_ad (z_g C) 0)), (1, .long (zl y1)), (3, .int (zi x3))] [] := by
  unfold f_X6_fingerprint_b180 at h
  refine z_iload_n hx 2 dX6_fingerprint_180 rfl ?_
  refine z_aload_n hx 0 dX6_fingerprint_181 rfl ?_
  refine gf_X6_heardMany hx wf_X6_135 dX6_fingerprint_182 ?_
  refine z_icmp_ge hx (tgt := 220) dX6_fingerprint_185 (by decide) h (fun h => h) (fun hc h => ?_) (fun hc h => ?_)
  · refine z_lload_n hx 1 dX6_fingerprint_220 rfl ?_
    cases h
    exact z_lret hx hq dX6_fingerprint_221
  · refine z_ldc2 hx (n := 31) wk_X6_159 dX6_fingerprint_188 ?_
    refine z_ldc2 hx (n := 31) wk_X6_159 dX6_fingerprint_191 ?_
    refine z_lload_n hx 1 dX6_fingerprint_194 rfl ?_
    refine z_lmul hx dX6_fingerprint_195 ?_
    refine z_aload_n hx 0 dX6_fingerprint_196 rfl ?_
    refine gf_X6_source hx wf_X6_28 dX6_fingerprint_197 ?_
    refine z_iload_n hx 2 dX6_fingerprint_200 rfl ?_
    refine z_iald hx (n := 1400) (z_lt1 (z_ok_sd hx) (by decide)) (z_kc7 (z_ok_sd hx) _) rfl (by decide) dX6_fingerprint_201 h (fun h => ?_)
    refine z_i2l hx dX6_fingerprint_202 h (fun h => ?_)
    refine z_ladd hx dX6_fingerprint_203 ?_
    refine z_lmul hx dX6_fingerprint_204 ?_
    refine z_aload_n hx 0 dX6_fingerprint_205 rfl ?_
    refine gf_X6_heardLevel hx wf_X6_31 dX6_fingerprint_206 ?_
    refine z_iload_n hx 2 dX6_fingerprint_209 rfl ?_
    refine z_iald hx (n := 1400) (z_lt1 (z_ok_sd hx) (by decide)) (z_kc8 (z_ok_sd hx) _) rfl (by decide) dX6_fingerprint_210 h (fun h => ?_)
    refine z_i2l hx dX6_fingerprint_211 h (fun h => ?_)
    refine z_ladd hx dX6_fingerprint_212 ?_
    refine z_lstore_n hx hn (lv' := [(1, .long (zl ((31 * ((31 * y1) + (σ 7 x3))) + (σ 8 x3)))), (0, .ref (z_ad (z_g C) 0)), (3, .int (zi x3))]) dX6_fingerprint_213 (by decide) rfl ?_
    refine z_iinc hx hn 2 (lv' := [(3, .int (zi (x3 + 1))), (1, .long (zl ((31 * ((31 * y1) + (σ 7 x3))) + (σ 8 x3)))), (0, .ref (z_ad (z_g C) 0))]) dX6_fingerprint_214 rfl (by decide) rfl ?_
    refine z_goto hx (tgt := 180) dX6_fingerprint_217 (by decide) ?_
    refine z_sub [2, 1, 0] rfl ?_
    exact hK180 σ ((31 * ((31 * y1) + (σ 7 x3))) + (σ 8 x3)) (x3 + 1) h

theorem w_X6_fingerprint_l180 {C : zC} (hx : z_ok C cX6_fingerprint RX6 1) (hn : z_nL C = 5) (hR : z_R C = rm_X6_fingerprint) {rr : Int × zS} (hq : z_fin C (some .long) (z_QL (z_g C) rr.1 rr.2)) : ∀ (n : Nat) (σ : zS) (y1 : Int) (x3 : Int) (_ : f_X6_fingerprint_l180 n σ y1 x3 = some rr), z_W C σ 180 [(0, .ref (z_ad (z_g C) 0)), (1, .long (zl y1)), (3, .int (zi x3))] [] := by
  intro n
  induction n with
  | zero => intro σ y1 x3 h; cases h
  | succ n ih =>
    intro σ y1 x3 h
    exact w_X6_fingerprint_b180 hx hn hR hq ih σ y1 x3 h
theorem w_X6_fingerprint_b136 {C : zC} (hx : z_ok C cX6_fingerprint RX6 1) (hn : z_nL C = 5) (hR : z_R C = rm_X6_fingerprint) {rr : Int × zS} (hq : z_fin C (some .long) (z_QL (z_g C) rr.1 rr.2)) {K136 : zS → Int → Int → Option (Int × zS)} (hK136 : ∀ (σ : zS) (y1 : Int) (x3 : Int) , K136 σ y1 x3 = some rr → z_W C σ 136 [(0, .ref (z_ad (z_g C) 0)), (1, .long (zl y1)), (3, .int (zi x3))] []) (σ : zS) (y1 : Int) (x3 : Int) (h : f_X6_fingerprint_b136 K136 σ y1 x3 = some rr) : z_W C σ 136 [(0, .ref (z_ad (z_g C) 0)), (1, .long (zl y1)), (3, .int (zi x3))] [] := by
  unfold f_X6_fingerprint_b136 at h
  refine z_iload_n hx 2 dX6_fingerprint_136 rfl ?_
  refine z_iconst hx (n := 5) dX6_fingerprint_137 ?_
  refine z_aload_n hx 0 dX6_fingerprint_138 rfl ?_
  refine gf_X6_cutMany hx wf_X6_108 dX6_fingerprint_139 ?_
  refine z_imul hx dX6_fingerprint_142 ?_
  refine z_icmp_ge hx (tgt := 166) dX6_fingerprint_143 (by decide) h (fun h => h) (fun hc h => ?_) (fun hc h => ?_)
  · refine z_ldc2 hx (n := 31) wk_X6_159 dX6_fingerprint_166 ?_
    refine z_lload_n hx 1 dX6_fingerprint_169 rfl ?_
    refine z_lmul hx dX6_fingerprint_170 ?_
    refine z_aload_n hx 0 dX6_fingerprint_171 rfl ?_
    refine gf_X6_heardMany hx wf_X6_135 dX6_fingerprint_172 ?_
    refine z_i2l hx dX6_fingerprint_175 h (fun h => ?_)
    refine z_ladd hx dX6_fingerprint_176 ?_
    refine z_lstore_n hx hn (lv' := [(1, .long (zl ((31 * y1) + (σ 0 15)))), (0, .ref (z_ad (z_g C) 0)), (3, .int (zi x3))]) dX6_fingerprint_177 (by decide) rfl ?_
    refine z_iconst hx (n := 0) dX6_fingerprint_178 ?_
    refine z_istore_n hx hn (lv' := [(3, .int (zi 0)), (1, .long (zl ((31 * y1) + (σ 0 15)))), (0, .ref (z_ad (z_g C) 0))]) dX6_fingerprint_179 (by decide) rfl ?_
    refine z_sub [2, 1, 0] rfl ?_
    exact w_X6_fingerprint_l180 hx hn hR hq z_fuel σ ((31 * y1) + (σ 0 15)) 0 h
  · refine z_ldc2 hx (n := 31) wk_X6_159 dX6_fingerprint_146 ?_
    refine z_lload_n hx 1 dX6_fingerprint_149 rfl ?_
    refine z_lmul hx dX6_fingerprint_150 ?_
    refine z_aload_n hx 0 dX6_fingerprint_151 rfl ?_
    refine gf_X6_cut hx wf_X6_25 dX6_fingerprint_152 ?_
    refine z_iload_n hx 2 dX6_fingerprint_155 rfl ?_
    refine z_iald hx (n := 100) (z_lt1 (z_ok_sd hx) (by decide)) (z_kc6 (z_ok_sd hx) _) rfl (by decide) dX6_fingerprint_156 h (fun h => ?_)
    refine z_i2l hx dX6_fingerprint_157 h (fun h => ?_)
    refine z_ladd hx dX6_fingerprint_158 ?_
    refine z_lstore_n hx hn (lv' := [(1, .long (zl ((31 * y1) + (σ 6 x3)))), (0, .ref (z_ad (z_g C) 0)), (3, .int (zi x3))]) dX6_fingerprint_159 (by decide) rfl ?_
    refine z_iinc hx hn 2 (lv' := [(3, .int (zi (x3 + 1))), (1, .long (zl ((31 * y1) + (σ 6 x3)))), (0, .ref (z_ad (z_g C) 0))]) dX6_fingerprint_160 rfl (by decide) rfl ?_
    refine z_goto hx (tgt := 136) dX6_fingerprint_163 (by decide) ?_
    refine z_sub [2, 1, 0] rfl ?_
    exact hK136 σ ((31 * y1) + (σ 6 x3)) (x3 + 1) h

theorem w_X6_fingerprint_l136 {C : zC} (hx : z_ok C cX6_fingerprint RX6 1) (hn : z_nL C = 5) (hR : z_R C = rm_X6_fingerprint) {rr : Int × zS} (hq : z_fin C (some .long) (z_QL (z_g C) rr.1 rr.2)) : ∀ (n : Nat) (σ : zS) (y1 : Int) (x3 : Int) (_ : f_X6_fingerprint_l136 n σ y1 x3 = some rr), z_W C σ 136 [(0, .ref (z_ad (z_g C) 0)), (1, .long (zl y1)), (3, .int (zi x3))] [] := by
  intro n
  induction n with
  | zero => intro σ y1 x3 h; cases h
  | succ n ih =>
    intro σ y1 x3 h
    exact w_X6_fingerprint_b136 hx hn hR hq ih σ y1 x3 h
theorem w_X6_fingerprint_b88 {C : zC} (hx : z_ok C cX6_fingerprint RX6 1) (hn : z_nL C = 5) (hR : z_R C = rm_X6_fingerprint) {rr : Int × zS} (hq : z_fin C (some .long) (z_QL (z_g C) rr.1 rr.2)) {K74 : zS → Int → Int → Option (Int × zS)} (hK74 : ∀ (σ : zS) (y1 : Int) (x3 : Int) , K74 σ y1 x3 = some rr → z_W C σ 74 [(0, .ref (z_ad (z_g C) 0)), (1, .long (zl y1)), (3, .int (zi x3))] []) {K88 : zS → Int → Int → Int → Option (Int × zS)} (hK88 : ∀ (σ : zS) (y1 : Int) (x3 : Int) (x4 : Int) , K88 σ y1 x3 x4 = some rr → z_W C σ 88 [(0, .ref (z_ad (z_g C) 0)), (1, .long (zl y1)), (3, .int (zi x3)), (4, .int (zi x4))] []) (σ : zS) (y1 : Int) (x3 : Int) (x4 : Int) (h : f_X6_fingerprint_b88 K74 K88 σ y1 x3 x4 = some rr) : z_W C σ 88 [(0, .ref (z_ad (z_g C) 0)), (1, .long (zl y1)), (3, .int (zi x3)), (4, .int (zi x4))] [] := by
  unfold f_X6_fingerprint_b88 at h
  refine z_iload hx 3 dX6_fingerprint_88 rfl ?_
  refine z_bipush hx (n := 6) dX6_fingerprint_90 rfl ?_
  refine z_icmp_ge hx (tgt := 116) dX6_fingerprint_92 (by decide) h (fun h => ⟨h, by decide⟩) (fun hc h => ?_) (fun hc h => ?_)
  · refine z_iinc hx hn 2 (lv' := [(3, .int (zi (x3 + 1))), (0, .ref (z_ad (z_g C) 0)), (1, .long (zl y1)), (4, .int (zi x4))]) dX6_fingerprint_116 rfl (by decide) rfl ?_
    refine z_goto hx (tgt := 74) dX6_fingerprint_119 (by decide) ?_
    refine z_sub [1, 2, 0] rfl ?_
    exact hK74 σ y1 (x3 + 1) h
  · refine z_ldc2 hx (n := 31) wk_X6_159 dX6_fingerprint_95 ?_
    refine z_lload_n hx 1 dX6_fingerprint_98 rfl ?_
    refine z_lmul hx dX6_fingerprint_99 ?_
    refine z_aload_n hx 0 dX6_fingerprint_100 rfl ?_
    refine z_iload_n hx 2 dX6_fingerprint_101 rfl ?_
    refine z_iload hx 3 dX6_fingerprint_102 rfl ?_
    obtain ⟨r2, σ1, h104, h⟩ := z_bind_some h
    refine z_calli hx (As := [.int (zi x3), .int (zi x4)]) (k := 0) (met_X6_told (z_l C) (z_g C) (z_ok_sd hx) h104) (z_lt1 (z_ok_sd hx) (by decide)) (z_kc0 (z_ok_sd hx) _) rfl rfl cv_X6_129 (z_room hR ⟨Nat.le_of_ble_eq_true rfl, Nat.le_of_ble_eq_true rfl⟩) ⟨rfl, rfl⟩ rfl rfl (Nat.le_of_ble_eq_true rfl) dX6_fingerprint_104 ?_
    refine z_i2l hx dX6_fingerprint_107 h (fun h => ?_)
    refine z_ladd hx dX6_fingerprint_108 ?_
    refine z_lstore_n hx hn (lv' := [(1, .long (zl ((31 * y1) + r2))), (0, .ref (z_ad (z_g C) 0)), (3, .int (zi x3)), (4, .int (zi x4))]) dX6_fingerprint_109 (by decide) rfl ?_
    refine z_iinc hx hn 3 (lv' := [(4, .int (zi (x4 + 1))), (1, .long (zl ((31 * y1) + r2))), (0, .ref (z_ad (z_g C) 0)), (3, .int (zi x3))]) dX6_fingerprint_110 rfl (by decide) rfl ?_
    refine z_goto hx (tgt := 88) dX6_fingerprint_113 (by decide) ?_
    refine z_sub [2, 1, 3, 0] rfl ?_
    exact hK88 σ1 ((31 * y1) + r2) x3 (x4 + 1) h

theorem w_X6_fingerprint_l88 {C : zC} (hx : z_ok C cX6_fingerprint RX6 1) (hn : z_nL C = 5) (hR : z_R C = rm_X6_fingerprint) {rr : Int × zS} (hq : z_fin C (some .long) (z_QL (z_g C) rr.1 rr.2)) {K74 : zS → Int → Int → Option (Int × zS)} (hK74 : ∀ (σ : zS) (y1 : Int) (x3 : Int) , K74 σ y1 x3 = some rr → z_W C σ 74 [(0, .ref (z_ad (z_g C) 0)), (1, .long (zl y1)), (3, .int (zi x3))] []) : ∀ (n : Nat) (σ : zS) (y1 : Int) (x3 : Int) (x4 : Int) (_ : f_X6_fingerprint_l88 K74 n σ y1 x3 x4 = some rr), z_W C σ 88 [(0, .ref (z_ad (z_g C) 0)), (1, .long (zl y1)), (3, .int (zi x3)), (4, .int (zi x4))] [] := by
  intro n
  induction n with
  | zero => intro σ y1 x3 x4 h; cases h
  | succ n ih =>
    intro σ y1 x3 x4 h
    exact w_X6_fingerprint_b88 hx hn hR hq hK74 ih σ y1 x3 x4 h
theorem w_X6_fingerprint_b74 {C : zC} (hx : z_ok C cX6_fingerprint RX6 1) (hn : z_nL C = 5) (hR : z_R C = rm_X6_fingerprint) {rr : Int × zS} (hq : z_fin C (some .long) (z_QL (z_g C) rr.1 rr.2)) {K74 : zS → Int → Int → Option (Int × zS)} (hK74 : ∀ (σ : zS) (y1 : Int) (x3 : Int) , K74 σ y1 x3 = some rr → z_W C σ 74 [(0, .ref (z_ad (z_g C) 0)), (1, .long (zl y1)), (3, .int (zi x3))] []) (σ : zS) (y1 : Int) (x3 : Int) (h : f_X6_fingerprint_b74 K74 σ y1 x3 = some rr) : z_W C σ 74 [(0, .ref (z_ad (z_g C) 0)), (1, .long (zl y1)), (3, .int (zi x3))] [] := by
  unfold f_X6_fingerprint_b74 at h
  refine z_iload_n hx 2 dX6_fingerprint_74 rfl ?_
  refine z_aload_n hx 0 dX6_fingerprint_75 rfl ?_
  refine gf_X6_v hx wf_X6_7 dX6_fingerprint_76 ?_
  refine z_bipush hx (n := 8) dX6_fingerprint_79 rfl ?_
  refine z_iald hx (n := 320) (z_lt1 (z_ok_sd hx) (by decide)) (z_kc1 (z_ok_sd hx) _) rfl (by decide) dX6_fingerprint_81 h (fun h => ?_)
  refine z_icmp_ge hx (tgt := 122) dX6_fingerprint_82 (by decide) h (fun h => h) (fun hc h => ?_) (fun hc h => ?_)
  · refine z_ldc2 hx (n := 31) wk_X6_159 dX6_fingerprint_122 ?_
    refine z_lload_n hx 1 dX6_fingerprint_125 rfl ?_
    refine z_lmul hx dX6_fingerprint_126 ?_
    refine z_aload_n hx 0 dX6_fingerprint_127 rfl ?_
    refine gf_X6_cutMany hx wf_X6_108 dX6_fingerprint_128 ?_
    refine z_i2l hx dX6_fingerprint_131 h (fun h => ?_)
    refine z_ladd hx dX6_fingerprint_132 ?_
    refine z_lstore_n hx hn (lv' := [(1, .long (zl ((31 * y1) + (σ 0 12)))), (0, .ref (z_ad (z_g C) 0)), (3, .int (zi x3))]) dX6_fingerprint_133 (by decide) rfl ?_
    refine z_iconst hx (n := 0) dX6_fingerprint_134 ?_
    refine z_istore_n hx hn (lv' := [(3, .int (zi 0)), (1, .long (zl ((31 * y1) + (σ 0 12)))), (0, .ref (z_ad (z_g C) 0))]) dX6_fingerprint_135 (by decide) rfl ?_
    refine z_sub [2, 1, 0] rfl ?_
    exact w_X6_fingerprint_l136 hx hn hR hq z_fuel σ ((31 * y1) + (σ 0 12)) 0 h
  · refine z_iconst hx (n := 0) dX6_fingerprint_85 ?_
    refine z_istore hx hn (lv' := [(4, .int (zi 0)), (0, .ref (z_ad (z_g C) 0)), (1, .long (zl y1)), (3, .int (zi x3))]) dX6_fingerprint_86 (by decide) rfl ?_
    refine z_sub [1, 2, 3, 0] rfl ?_
    exact w_X6_fingerprint_l88 hx hn hR hq hK74 z_fuel σ y1 x3 0 h

theorem w_X6_fingerprint_l74 {C : zC} (hx : z_ok C cX6_fingerprint RX6 1) (hn : z_nL C = 5) (hR : z_R C = rm_X6_fingerprint) {rr : Int × zS} (hq : z_fin C (some .long) (z_QL (z_g C) rr.1 rr.2)) : ∀ (n : Nat) (σ : zS) (y1 : Int) (x3 : Int) (_ : f_X6_fingerprint_l74 n σ y1 x3 = some rr), z_W C σ 74 [(0, .ref (z_ad (z_g C) 0)), (1, .long (zl y1)), (3, .int (zi x3))] [] := by
  intro n
  induction n with
  | zero => intro σ y1 x3 h; cases h
  | succ n ih =>
    intro σ y1 x3 h
    exact w_X6_fingerprint_b74 hx hn hR hq ih σ y1 x3 h
theorem w_X6_fingerprint_b38 {C : zC} (hx : z_ok C cX6_fingerprint RX6 1) (hn : z_nL C = 5) (hR : z_R C = rm_X6_fingerprint) {rr : Int × zS} (hq : z_fin C (some .long) (z_QL (z_g C) rr.1 rr.2)) {K38 : zS → Int → Int → Option (Int × zS)} (hK38 : ∀ (σ : zS) (y1 : Int) (x3 : Int) , K38 σ y1 x3 = some rr → z_W C σ 38 [(0, .ref (z_ad (z_g C) 0)), (1, .long (zl y1)), (3, .int (zi x3))] []) (σ : zS) (y1 : Int) (x3 : Int) (h : f_X6_fingerprint_b38 K38 σ y1 x3 = some rr) : z_W C σ 38 [(0, .ref (z_ad (z_g C) 0)), (1, .long (zl y1)), (3, .int (zi x3))] [] := by
  unfold f_X6_fingerprint_b38 at h
  refine z_iload_n hx 2 dX6_fingerprint_38 rfl ?_
  refine z_aload_n hx 0 dX6_fingerprint_39 rfl ?_
  refine gf_X6_v hx wf_X6_7 dX6_fingerprint_40 ?_
  refine z_bipush hx (n := 7) dX6_fingerprint_43 rfl ?_
  refine z_iald hx (n := 320) (z_lt1 (z_ok_sd hx) (by decide)) (z_kc1 (z_ok_sd hx) _) rfl (by decide) dX6_fingerprint_45 h (fun h => ?_)
  refine z_icmp_ge hx (tgt := 72) dX6_fingerprint_46 (by decide) h (fun h => h) (fun hc h => ?_) (fun hc h => ?_)
  · refine z_iconst hx (n := 0) dX6_fingerprint_72 ?_
    refine z_istore_n hx hn (lv' := [(3, .int (zi 0)), (0, .ref (z_ad (z_g C) 0)), (1, .long (zl y1))]) dX6_fingerprint_73 (by decide) rfl ?_
    refine z_sub [1, 2, 0] rfl ?_
    exact w_X6_fingerprint_l74 hx hn hR hq z_fuel σ y1 0 h
  · refine z_ldc2 hx (n := 31) wk_X6_159 dX6_fingerprint_49 ?_
    refine z_lload_n hx 1 dX6_fingerprint_52 rfl ?_
    refine z_lmul hx dX6_fingerprint_53 ?_
    refine z_aload_n hx 0 dX6_fingerprint_54 rfl ?_
    refine gf_X6_v hx wf_X6_7 dX6_fingerprint_55 ?_
    refine z_bipush hx (n := 10) dX6_fingerprint_58 rfl ?_
    refine z_iload_n hx 2 dX6_fingerprint_60 rfl ?_
    refine z_iadd hx dX6_fingerprint_61 ?_
    refine z_iald hx (n := 320) (z_lt1 (z_ok_sd hx) (by decide)) (z_kc1 (z_ok_sd hx) _) rfl (by decide) dX6_fingerprint_62 h (fun h => ?_)
    refine z_i2l hx dX6_fingerprint_63 h (fun h => ?_)
    refine z_ladd hx dX6_fingerprint_64 ?_
    refine z_lstore_n hx hn (lv' := [(1, .long (zl ((31 * y1) + (σ 1 (10 + x3))))), (0, .ref (z_ad (z_g C) 0)), (3, .int (zi x3))]) dX6_fingerprint_65 (by decide) rfl ?_
    refine z_iinc hx hn 2 (lv' := [(3, .int (zi (x3 + 1))), (1, .long (zl ((31 * y1) + (σ 1 (10 + x3))))), (0, .ref (z_ad (z_g C) 0))]) dX6_fingerprint_66 rfl (by decide) rfl ?_
    refine z_goto hx (tgt := 38) dX6_fingerprint_69 (by decide) ?_
    refine z_sub [2, 1, 0] rfl ?_
    exact hK38 σ ((31 * y1) + (σ 1 (10 + x3))) (x3 + 1) h

theorem w_X6_fingerprint_l38 {C : zC} (hx : z_ok C cX6_fingerprint RX6 1) (hn : z_nL C = 5) (hR : z_R C = rm_X6_fingerprint) {rr : Int × zS} (hq : z_fin C (some .long) (z_QL (z_g C) rr.1 rr.2)) : ∀ (n : Nat) (σ : zS) (y1 : Int) (x3 : Int) (_ : f_X6_fingerprint_l38 n σ y1 x3 = some rr), z_W C σ 38 [(0, .ref (z_ad (z_g C) 0)), (1, .long (zl y1)), (3, .int (zi x3))] [] := by
  intro n
  induction n with
  | zero => intro σ y1 x3 h; cases h
  | succ n ih =>
    intro σ y1 x3 h
    exact w_X6_fingerprint_b38 hx hn hR hq ih σ y1 x3 h
theorem w_X6_fingerprint_b10 {C : zC} (hx : z_ok C cX6_fingerprint RX6 1) (hn : z_nL C = 5) (hR : z_R C = rm_X6_fingerprint) {rr : Int × zS} (hq : z_fin C (some .long) (z_QL (z_g C) rr.1 rr.2)) {K10 : zS → Int → Int → Option (Int × zS)} (hK10 : ∀ (σ : zS) (y1 : Int) (x3 : Int) , K10 σ y1 x3 = some rr → z_W C σ 10 [(0, .ref (z_ad (z_g C) 0)), (1, .long (zl y1)), (3, .int (zi x3))] []) (σ : zS) (y1 : Int) (x3 : Int) (h : f_X6_fingerprint_b10 K10 σ y1 x3 = some rr) : z_W C σ 10 [(0, .ref (z_ad (z_g C) 0)), (1, .long (zl y1)), (3, .int (zi x3))] [] := by
  unfold f_X6_fingerprint_b10 at h
  refine z_iload_n hx 2 dX6_fingerprint_10 rfl ?_
  refine z_bipush hx (n := 9) dX6_fingerprint_11 rfl ?_
  refine z_icmp_ge hx (tgt := 36) dX6_fingerprint_13 (by decide) h (fun h => ⟨h, by decide⟩) (fun hc h => ?_) (fun hc h => ?_)
  · refine z_iconst hx (n := 0) dX6_fingerprint_36 ?_
    refine z_istore_n hx hn (lv' := [(3, .int (zi 0)), (0, .ref (z_ad (z_g C) 0)), (1, .long (zl y1))]) dX6_fingerprint_37 (by decide) rfl ?_
    refine z_sub [1, 2, 0] rfl ?_
    exact w_X6_fingerprint_l38 hx hn hR hq z_fuel σ y1 0 h
  · refine z_ldc2 hx (n := 31) wk_X6_159 dX6_fingerprint_16 ?_
    refine z_lload_n hx 1 dX6_fingerprint_19 rfl ?_
    refine z_lmul hx dX6_fingerprint_20 ?_
    refine z_aload_n hx 0 dX6_fingerprint_21 rfl ?_
    refine gf_X6_v hx wf_X6_7 dX6_fingerprint_22 ?_
    refine z_iload_n hx 2 dX6_fingerprint_25 rfl ?_
    refine z_iald hx (n := 320) (z_lt1 (z_ok_sd hx) (by decide)) (z_kc1 (z_ok_sd hx) _) rfl (by decide) dX6_fingerprint_26 h (fun h => ?_)
    refine z_i2l hx dX6_fingerprint_27 h (fun h => ?_)
    refine z_ladd hx dX6_fingerprint_28 ?_
    refine z_lstore_n hx hn (lv' := [(1, .long (zl ((31 * y1) + (σ 1 x3)))), (0, .ref (z_ad (z_g C) 0)), (3, .int (zi x3))]) dX6_fingerprint_29 (by decide) rfl ?_
    refine z_iinc hx hn 2 (lv' := [(3, .int (zi (x3 + 1))), (1, .long (zl ((31 * y1) + (σ 1 x3)))), (0, .ref (z_ad (z_g C) 0))]) dX6_fingerprint_30 rfl (by decide) rfl ?_
    refine z_goto hx (tgt := 10) dX6_fingerprint_33 (by decide) ?_
    refine z_sub [2, 1, 0] rfl ?_
    exact hK10 σ ((31 * y1) + (σ 1 x3)) (x3 + 1) h

theorem w_X6_fingerprint_l10 {C : zC} (hx : z_ok C cX6_fingerprint RX6 1) (hn : z_nL C = 5) (hR : z_R C = rm_X6_fingerprint) {rr : Int × zS} (hq : z_fin C (some .long) (z_QL (z_g C) rr.1 rr.2)) : ∀ (n : Nat) (σ : zS) (y1 : Int) (x3 : Int) (_ : f_X6_fingerprint_l10 n σ y1 x3 = some rr), z_W C σ 10 [(0, .ref (z_ad (z_g C) 0)), (1, .long (zl y1)), (3, .int (zi x3))] [] := by
  intro n
  induction n with
  | zero => intro σ y1 x3 h; cases h
  | succ n ih =>
    intro σ y1 x3 h
    exact w_X6_fingerprint_b10 hx hn hR hq ih σ y1 x3 h
theorem w_X6_fingerprint {C : zC} (hx : z_ok C cX6_fingerprint RX6 1) (hn : z_nL C = 5) (hR : z_R C = rm_X6_fingerprint) {rr : Int × zS} (hq : z_fin C (some .long) (z_QL (z_g C) rr.1 rr.2)) (σ : zS) (h : f_X6_fingerprint σ = some rr) : z_W C σ 0 [(0, .ref (z_ad (z_g C) 0))] [] := by
  unfold f_X6_fingerprint at h
  refine z_aload_n hx 0 dX6_fingerprint_0 rfl ?_
  obtain ⟨⟨⟩, σ1, h1, h⟩ := z_bind_some h
  refine z_callv hx (As := []) (k := 0) (met_X6_plays (z_l C) (z_g C) (z_ok_sd hx) h1) (z_lt1 (z_ok_sd hx) (by decide)) (z_kc0 (z_ok_sd hx) _) rfl rfl cv_X6_154 (z_room hR ⟨Nat.le_of_ble_eq_true rfl, Nat.le_of_ble_eq_true rfl⟩) ⟨rfl, rfl⟩ rfl rfl (Nat.le_of_ble_eq_true rfl) dX6_fingerprint_1 ?_
  refine z_ldc2 hx (n := 151) wk_X6_157 dX6_fingerprint_4 ?_
  refine z_lstore_n hx hn (lv' := [(1, .long (zl 151)), (0, .ref (z_ad (z_g C) 0))]) dX6_fingerprint_7 (by decide) rfl ?_
  refine z_iconst hx (n := 0) dX6_fingerprint_8 ?_
  refine z_istore_n hx hn (lv' := [(3, .int (zi 0)), (1, .long (zl 151)), (0, .ref (z_ad (z_g C) 0))]) dX6_fingerprint_9 (by decide) rfl ?_
  refine z_sub [2, 1, 0] rfl ?_
  exact w_X6_fingerprint_l10 hx hn hR hq z_fuel σ1 151 0 h

theorem met_X6_fingerprint (l : Launch) (g : zG) (hg : g.1 = 1) {σ : zS} {rr : Int × zS} (h : f_X6_fingerprint σ = some rr) : z_Met l yX6_fingerprint cX6_fingerprint 5 (some .long) rm_X6_fingerprint g [.ref (z_ad (g) 0)] σ (z_QL g rr.1 rr.2) := by
  refine z_enter (own := RX6) (sd := 1) (lv0 := [(0, .ref (z_ad (g) 0))]) (by decide) rfl (Nat.le_of_ble_eq_true rfl) hg rfl (fun C hx hl hgC hR hn hq => ?_)
  subst hgC
  refine z_sub [0] rfl ?_
  exact w_X6_fingerprint hx hn hR hq σ h
