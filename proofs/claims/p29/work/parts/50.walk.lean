/-! walks, by program: set, loudness, share -/
theorem wf_X5_96 : Cond.fieldLink RX5 96 RX5 "GREATEST_SETTINGS" "[I" ∈ z_ws := z_ws_t 265 (by decide +kernel) (by decide +kernel)
theorem wm_X5_160 : Cond.methodLink RX5 160 yX3_sumOfLevels ∈ z_ws := z_ws_t 402 (by decide +kernel) (by decide +kernel)
theorem wc_X3_sumOfLevels : Cond.code yX3_sumOfLevels cX3_sumOfLevels 3 (some .int) ∈ z_ws := z_ws_t 405 (by decide +kernel) (by decide +kernel)
theorem win_X3_sumOfLevels : Cond.instanceMethod yX3_sumOfLevels ∈ z_ws := z_ws_t 403 (by decide +kernel) (by decide +kernel)
theorem wse_X3_sumOfLevels : Cond.selects RX3 yX3_sumOfLevels yX3_sumOfLevels ∈ z_ws := z_ws_t 404 (by decide +kernel) (by decide +kernel)
theorem cv_X5_160 : z_cv RX5 160 yX3_sumOfLevels cX3_sumOfLevels 3 (some .int) 0 := z_cv_of wm_X5_160 win_X3_sumOfLevels wse_X3_sumOfLevels wi_X3 wc_X3_sumOfLevels (by decide +kernel)
theorem dX5_set_0 : decode cX5_set 0 = .ok (.iload_n 1, 1) := by decide +kernel
theorem dX5_set_1 : decode cX5_set 1 = .ok (.ifCond .lt 9, 3) := by decide +kernel
theorem dX5_set_4 : decode cX5_set 4 = .ok (.iload_n 1, 1) := by decide +kernel
theorem dX5_set_5 : decode cX5_set 5 = .ok (.bipush 7, 2) := by decide +kernel
theorem dX5_set_7 : decode cX5_set 7 = .ok (.if_icmp .lt 5, 3) := by decide +kernel
theorem dX5_set_10 : decode cX5_set 10 = .ok (.iconst (-1), 1) := by decide +kernel
theorem dX5_set_11 : decode cX5_set 11 = .ok (.ireturn, 1) := by decide +kernel
theorem dX5_set_12 : decode cX5_set 12 = .ok (.iload_n 2, 1) := by decide +kernel
theorem dX5_set_13 : decode cX5_set 13 = .ok (.ifCond .lt 12, 3) := by decide +kernel
theorem dX5_set_16 : decode cX5_set 16 = .ok (.iload_n 2, 1) := by decide +kernel
theorem dX5_set_17 : decode cX5_set 17 = .ok (.getstatic 96, 3) := by decide +kernel
theorem dX5_set_20 : decode cX5_set 20 = .ok (.iload_n 1, 1) := by decide +kernel
theorem dX5_set_21 : decode cX5_set 21 = .ok (.iaload, 1) := by decide +kernel
theorem dX5_set_22 : decode cX5_set 22 = .ok (.if_icmp .le 5, 3) := by decide +kernel
theorem dX5_set_25 : decode cX5_set 25 = .ok (.iconst (-1), 1) := by decide +kernel
theorem dX5_set_26 : decode cX5_set 26 = .ok (.ireturn, 1) := by decide +kernel
theorem dX5_set_27 : decode cX5_set 27 = .ok (.aload_n 0, 1) := by decide +kernel
theorem dX5_set_28 : decode cX5_set 28 = .ok (.getfield 27, 3) := by decide +kernel
theorem dX5_set_31 : decode cX5_set 31 = .ok (.aload_n 0, 1) := by decide +kernel
theorem dX5_set_32 : decode cX5_set 32 = .ok (.getfield 20, 3) := by decide +kernel
theorem dX5_set_35 : decode cX5_set 35 = .ok (.invokevirtual 56, 3) := by decide +kernel
theorem dX5_set_38 : decode cX5_set 38 = .ok (.aload_n 0, 1) := by decide +kernel
theorem dX5_set_39 : decode cX5_set 39 = .ok (.getfield 20, 3) := by decide +kernel
theorem dX5_set_42 : decode cX5_set 42 = .ok (.getfield 99, 3) := by decide +kernel
theorem dX5_set_45 : decode cX5_set 45 = .ok (.iload_n 1, 1) := by decide +kernel
theorem dX5_set_46 : decode cX5_set 46 = .ok (.iaload, 1) := by decide +kernel
theorem dX5_set_47 : decode cX5_set 47 = .ok (.istore_n 3, 1) := by decide +kernel
theorem dX5_set_48 : decode cX5_set 48 = .ok (.aload_n 0, 1) := by decide +kernel
theorem dX5_set_49 : decode cX5_set 49 = .ok (.getfield 20, 3) := by decide +kernel
theorem dX5_set_52 : decode cX5_set 52 = .ok (.getfield 99, 3) := by decide +kernel
theorem dX5_set_55 : decode cX5_set 55 = .ok (.iload_n 1, 1) := by decide +kernel
theorem dX5_set_56 : decode cX5_set 56 = .ok (.iload_n 2, 1) := by decide +kernel
theorem dX5_set_57 : decode cX5_set 57 = .ok (.iastore, 1) := by decide +kernel
theorem dX5_set_58 : decode cX5_set 58 = .ok (.iload_n 3, 1) := by decide +kernel
theorem dX5_set_59 : decode cX5_set 59 = .ok (.ireturn, 1) := by decide +kernel
abbrev rm_X5_set : Room := { frames := 4, cells := 0, slots := 0, locals := 124 }
theorem w_X5_set_b25 {C : zC} (hx : z_ok C cX5_set RX5 0) (hn : z_nL C = 4) (hR : z_R C = rm_X5_set) {rr : Int × zS} {gs : Nat} (hSt : z_St C gs) (hq : z_fin C (some .int) (z_QI (z_g C) rr.1 rr.2)) (σ : zS) (h : f_X5_set_b25 σ = some rr) : z_W C σ 25 [] [] := by
  unfold f_X5_set_b25 at h
  refine z_iconst hx (n := (-1)) dX5_set_25 ?_
  cases h
  exact z_iret hx hq dX5_set_26

theorem w_X5_set_b10 {C : zC} (hx : z_ok C cX5_set RX5 0) (hn : z_nL C = 4) (hR : z_R C = rm_X5_set) {rr : Int × zS} {gs : Nat} (hSt : z_St C gs) (hq : z_fin C (some .int) (z_QI (z_g C) rr.1 rr.2)) (σ : zS) (h : f_X5_set_b10 σ = some rr) : z_W C σ 10 [] [] := by
  unfold f_X5_set_b10 at h
  refine z_iconst hx (n := (-1)) dX5_set_10 ?_
  cases h
  exact z_iret hx hq dX5_set_11

theorem w_X5_set {C : zC} (hx : z_ok C cX5_set RX5 0) (hn : z_nL C = 4) (hR : z_R C = rm_X5_set) {rr : Int × zS} {gs : Nat} (hSt : z_St C gs) (hq : z_fin C (some .int) (z_QI (z_g C) rr.1 rr.2)) (σ : zS) (x1 : Int) (x2 : Int) (h : f_X5_set σ x1 x2 = some rr) : z_W C σ 0 [(0, .ref (z_ad (z_g C) 62)), (1, .int (zi x1)), (2, .int (zi x2))] [] := by
  unfold f_X5_set at h
  refine z_iload_n hx 1 dX5_set_0 rfl ?_
  refine z_if_lt hx (tgt := 10) dX5_set_1 (by decide) h (fun h => h) (fun hc h => ?_) (fun hc h => ?_)
  · refine z_sub [] rfl ?_
    exact w_X5_set_b10 hx hn hR hSt hq σ h
  · refine z_iload_n hx 1 dX5_set_4 rfl ?_
    refine z_bipush hx (n := 7) dX5_set_5 rfl ?_
    refine z_icmp_lt hx (tgt := 12) dX5_set_7 (by decide) h (fun h => ⟨h, by decide⟩) (fun hc h => ?_) (fun hc h => ?_)
    · refine z_iload_n hx 2 dX5_set_12 rfl ?_
      refine z_if_lt hx (tgt := 25) dX5_set_13 (by decide) h (fun h => h) (fun hc h => ?_) (fun hc h => ?_)
      · refine z_sub [] rfl ?_
        exact w_X5_set_b25 hx hn hR hSt hq σ h
      · refine z_iload_n hx 2 dX5_set_16 rfl ?_
        refine z_gets hx hSt wf_X5_96 dX5_set_17 ?_
        refine z_iload_n hx 1 dX5_set_20 rfl ?_
        refine z_sald hx hSt dX5_set_21 h (fun h => ?_)
        refine z_icmp_le hx (tgt := 27) dX5_set_22 (by decide) h (fun h => h) (fun hc h => ?_) (fun hc h => ?_)
        · refine z_aload_n hx 0 dX5_set_27 rfl ?_
          refine gf_X5_history hx wf_X5_27 dX5_set_28 ?_
          refine z_aload_n hx 0 dX5_set_31 rfl ?_
          refine gf_X5_recording hx wf_X5_20 dX5_set_32 ?_
          obtain ⟨⟨⟩, σ1, h35, h⟩ := z_bind_some h
          refine z_callv hx (As := [.ref (z_ad (z_g C) 0)]) (k := 60) (met_X1_keep (z_l C) (z_g C) (z_ok_sd hx) (show 0 < 6 by decide) h35) (z_lt0 (z_ok_sd hx) (by decide)) (z_kb60 (z_ok_sd hx) _) rfl rfl cv_X5_56 (z_room hR ⟨Nat.le_of_ble_eq_true rfl, Nat.le_of_ble_eq_true rfl⟩) ⟨rfl, rfl⟩ rfl rfl (Nat.le_of_ble_eq_true rfl) dX5_set_35 ?_
          refine z_aload_n hx 0 dX5_set_38 rfl ?_
          refine gf_X5_recording hx wf_X5_20 dX5_set_39 ?_
          refine gf_X2_settings hx wf_X5_99 (show 0 < 6 by decide) dX5_set_42 ?_
          refine z_iload_n hx 1 dX5_set_45 rfl ?_
          refine z_iald hx (n := 7) (z_lt0 (z_ok_sd hx) (by decide)) (z_ka7 (z_ok_sd hx) (show 0 < 6 by decide) _) rfl (by decide) dX5_set_46 h (fun h => ?_)
          refine z_istore_n hx hn (lv' := [(3, .int (zi (σ1 7 x1))), (0, .ref (z_ad (z_g C) 62)), (1, .int (zi x1)), (2, .int (zi x2))]) dX5_set_47 (by decide) rfl ?_
          refine z_aload_n hx 1 dX5_set_48 rfl ?_
          refine gf_X5_recording hx wf_X5_20 dX5_set_49 ?_
          refine gf_X2_settings hx wf_X5_99 (show 0 < 6 by decide) dX5_set_52 ?_
          refine z_iload_n hx 2 dX5_set_55 rfl ?_
          refine z_iload_n hx 3 dX5_set_56 rfl ?_
          refine z_iast hx (n := 7) (z_lt0 (z_ok_sd hx) (by decide)) (z_ka7 (z_ok_sd hx) (show 0 < 6 by decide)) rfl (by decide) dX5_set_57 h (fun σ2 h => ?_)
          refine z_iload_n hx 0 dX5_set_58 rfl ?_
          cases h
          exact z_iret hx hq dX5_set_59
        · refine z_sub [] rfl ?_
          exact w_X5_set_b25 hx hn hR hSt hq σ h
    · refine z_sub [] rfl ?_
      exact w_X5_set_b10 hx hn hR hSt hq σ h

theorem dX5_loudness_0 : decode cX5_loudness 0 = .ok (.aload_n 0, 1) := by decide +kernel
theorem dX5_loudness_1 : decode cX5_loudness 1 = .ok (.invokevirtual 143, 3) := by decide +kernel
theorem dX5_loudness_4 : decode cX5_loudness 4 = .ok (.astore_n 1, 1) := by decide +kernel
theorem dX5_loudness_5 : decode cX5_loudness 5 = .ok (.aload_n 1, 1) := by decide +kernel
theorem dX5_loudness_6 : decode cX5_loudness 6 = .ok (.getfield 147, 3) := by decide +kernel
theorem dX5_loudness_9 : decode cX5_loudness 9 = .ok (.ifCond .ne 5, 3) := by decide +kernel
theorem dX5_loudness_12 : decode cX5_loudness 12 = .ok (.fconst 0, 1) := by decide +kernel
theorem dX5_loudness_13 : decode cX5_loudness 13 = .ok (.freturn, 1) := by decide +kernel
theorem dX5_loudness_14 : decode cX5_loudness 14 = .ok (.aload_n 1, 1) := by decide +kernel
theorem dX5_loudness_15 : decode cX5_loudness 15 = .ok (.invokevirtual 160, 3) := by decide +kernel
theorem dX5_loudness_18 : decode cX5_loudness 18 = .ok (.i2f, 1) := by decide +kernel
theorem dX5_loudness_19 : decode cX5_loudness 19 = .ok (.aload_n 1, 1) := by decide +kernel
theorem dX5_loudness_20 : decode cX5_loudness 20 = .ok (.getfield 147, 3) := by decide +kernel
theorem dX5_loudness_23 : decode cX5_loudness 23 = .ok (.i2f, 1) := by decide +kernel
theorem dX5_loudness_24 : decode cX5_loudness 24 = .ok (.fdiv, 1) := by decide +kernel
theorem dX5_loudness_25 : decode cX5_loudness 25 = .ok (.freturn, 1) := by decide +kernel
abbrev rm_X5_loudness : Room := { frames := 6, cells := 0, slots := 0, locals := 146 }
theorem w_X5_loudness {C : zC} (hx : z_ok C cX5_loudness RX5 0) (hn : z_nL C = 2) (hR : z_R C = rm_X5_loudness) {rr : (Int × Int) × zS} (hq : (rr.1 = (0, 0) → ∀ lv, z_W C rr.2 12 lv []) ∧ (rr.1.2 ≠ 0 → ∀ lv, z_W C rr.2 24 lv [.float (z_f rr.1.2), .float (z_f rr.1.1)])) (σ : zS) (h : f_X5_loudness σ = some rr) : z_W C σ 0 [(0, .ref (z_ad (z_g C) 62))] [] := by
  unfold f_X5_loudness at h
  refine z_aload_n hx 0 dX5_loudness_0 rfl ?_
  obtain ⟨⟨⟩, σ1, h1, h⟩ := z_bind_some h
  refine z_callr hx (As := []) (k := 62) (met_X5_currentResult (z_l C) (z_g C) (z_ok_sd hx) h1) (z_lt0 (z_ok_sd hx) (by decide)) (z_kb62 (z_ok_sd hx) _) rfl rfl cv_X5_143 (z_room hR ⟨Nat.le_of_ble_eq_true rfl, Nat.le_of_ble_eq_true rfl⟩) ⟨rfl, rfl⟩ rfl rfl (Nat.le_of_ble_eq_true rfl) dX5_loudness_1 ?_
  refine z_astore_n hx hn (lv' := [(1, .ref (z_ad (z_g C) 54)), (0, .ref (z_ad (z_g C) 62))]) dX5_loudness_4 (by decide) rfl ?_
  refine z_aload_n hx 0 dX5_loudness_5 rfl ?_
  refine gf_X3_count hx wf_X5_147 dX5_loudness_6 ?_
  refine z_if_ne hx (tgt := 14) dX5_loudness_9 (by decide) h (fun h => h) (fun hc h => ?_) (fun hc h => ?_)
  · refine z_aload_n hx 0 dX5_loudness_14 rfl ?_
    obtain ⟨r3, σ2, h15, h⟩ := z_bind_some h
    refine z_calli hx (As := []) (k := 54) (met_X3_sumOfLevels (z_l C) (z_g C) (z_ok_sd hx) h15) (z_lt0 (z_ok_sd hx) (by decide)) (z_kb54 (z_ok_sd hx) _) rfl rfl cv_X5_160 (z_room hR ⟨Nat.le_of_ble_eq_true rfl, Nat.le_of_ble_eq_true rfl⟩) ⟨rfl, rfl⟩ rfl rfl (Nat.le_of_ble_eq_true rfl) dX5_loudness_15 ?_
    refine z_i2f hx dX5_loudness_18 ?_
    refine z_aload_n hx 0 dX5_loudness_19 rfl ?_
    refine gf_X3_count hx wf_X5_147 dX5_loudness_20 ?_
    refine z_i2f hx dX5_loudness_23 ?_
    obtain ⟨hz, h⟩ := z_gd h
    cases h
    exact hq.2 hz _
  · cases h
    exact hq.1 rfl _

theorem dX5_share_0 : decode cX5_share 0 = .ok (.aload_n 0, 1) := by decide +kernel
theorem dX5_share_1 : decode cX5_share 1 = .ok (.getfield 20, 3) := by decide +kernel
theorem dX5_share_4 : decode cX5_share 4 = .ok (.getfield 66, 3) := by decide +kernel
theorem dX5_share_7 : decode cX5_share 7 = .ok (.ifCond .ne 5, 3) := by decide +kernel
theorem dX5_share_10 : decode cX5_share 10 = .ok (.fconst 0, 1) := by decide +kernel
theorem dX5_share_11 : decode cX5_share 11 = .ok (.freturn, 1) := by decide +kernel
theorem dX5_share_12 : decode cX5_share 12 = .ok (.aload_n 0, 1) := by decide +kernel
theorem dX5_share_13 : decode cX5_share 13 = .ok (.getfield 20, 3) := by decide +kernel
theorem dX5_share_16 : decode cX5_share 16 = .ok (.getfield 66, 3) := by decide +kernel
theorem dX5_share_19 : decode cX5_share 19 = .ok (.aload_n 0, 1) := by decide +kernel
theorem dX5_share_20 : decode cX5_share 20 = .ok (.invokevirtual 102, 3) := by decide +kernel
theorem dX5_share_23 : decode cX5_share 23 = .ok (.invokevirtual 126, 3) := by decide +kernel
theorem dX5_share_26 : decode cX5_share 26 = .ok (.isub, 1) := by decide +kernel
theorem dX5_share_27 : decode cX5_share 27 = .ok (.istore_n 1, 1) := by decide +kernel
theorem dX5_share_28 : decode cX5_share 28 = .ok (.iload_n 1, 1) := by decide +kernel
theorem dX5_share_29 : decode cX5_share 29 = .ok (.i2f, 1) := by decide +kernel
theorem dX5_share_30 : decode cX5_share 30 = .ok (.aload_n 0, 1) := by decide +kernel
theorem dX5_share_31 : decode cX5_share 31 = .ok (.getfield 20, 3) := by decide +kernel
theorem dX5_share_34 : decode cX5_share 34 = .ok (.getfield 66, 3) := by decide +kernel
theorem dX5_share_37 : decode cX5_share 37 = .ok (.i2f, 1) := by decide +kernel
theorem dX5_share_38 : decode cX5_share 38 = .ok (.fdiv, 1) := by decide +kernel
theorem dX5_share_39 : decode cX5_share 39 = .ok (.freturn, 1) := by decide +kernel
abbrev rm_X5_share : Room := { frames := 6, cells := 0, slots := 0, locals := 146 }
theorem w_X5_share {C : zC} (hx : z_ok C cX5_share RX5 0) (hn : z_nL C = 2) (hR : z_R C = rm_X5_share) {rr : (Int × Int) × zS} (hq : (rr.1 = (0, 0) → ∀ lv, z_W C rr.2 10 lv []) ∧ (rr.1.2 ≠ 0 → ∀ lv, z_W C rr.2 38 lv [.float (z_f rr.1.2), .float (z_f rr.1.1)])) (σ : zS) (h : f_X5_share σ = some rr) : z_W C σ 0 [(0, .ref (z_ad (z_g C) 62))] [] := by
  unfold f_X5_share at h
  refine z_aload_n hx 0 dX5_share_0 rfl ?_
  refine gf_X5_recording hx wf_X5_20 dX5_share_1 ?_
  refine gf_X2_frames hx wf_X5_66 (show 0 < 6 by decide) dX5_share_4 ?_
  refine z_if_ne hx (tgt := 12) dX5_share_7 (by decide) h (fun h => h) (fun hc h => ?_) (fun hc h => ?_)
  · refine z_aload_n hx 0 dX5_share_12 rfl ?_
    refine gf_X5_recording hx wf_X5_20 dX5_share_13 ?_
    refine gf_X2_frames hx wf_X5_66 (show 0 < 6 by decide) dX5_share_16 ?_
    refine z_aload_n hx 0 dX5_share_19 rfl ?_
    obtain ⟨⟨⟩, σ1, h20, h⟩ := z_bind_some h
    refine z_callr hx (As := []) (k := 62) (met_X5_currentCuts (z_l C) (z_g C) (z_ok_sd hx) h20) (z_lt0 (z_ok_sd hx) (by decide)) (z_kb62 (z_ok_sd hx) _) rfl rfl cv_X5_102 (z_room hR ⟨Nat.le_of_ble_eq_true rfl, Nat.le_of_ble_eq_true rfl⟩) ⟨rfl, rfl⟩ rfl rfl (Nat.le_of_ble_eq_true rfl) dX5_share_20 ?_
    obtain ⟨r3, σ2, h23, h⟩ := z_bind_some h
    refine z_calli hx (As := []) (k := 48) (met_X0_cutFrames (z_l C) (z_g C) (z_ok_sd hx) h23) (z_lt0 (z_ok_sd hx) (by decide)) (z_kb48 (z_ok_sd hx) _) rfl rfl cv_X5_126 (z_room hR ⟨Nat.le_of_ble_eq_true rfl, Nat.le_of_ble_eq_true rfl⟩) ⟨rfl, rfl⟩ rfl rfl (Nat.le_of_ble_eq_true rfl) dX5_share_23 ?_
    refine z_isub hx dX5_share_26 ?_
    refine z_istore_n hx hn (lv' := [(1, .int (zi ((σ 0 1) - r3))), (0, .ref (z_ad (z_g C) 62))]) dX5_share_27 (by decide) rfl ?_
    refine z_iload_n hx 0 dX5_share_28 rfl ?_
    refine z_i2f hx dX5_share_29 ?_
    refine z_aload_n hx 1 dX5_share_30 rfl ?_
    refine gf_X5_recording hx wf_X5_20 dX5_share_31 ?_
    refine gf_X2_frames hx wf_X5_66 (show 0 < 6 by decide) dX5_share_34 ?_
    refine z_i2f hx dX5_share_37 ?_
    obtain ⟨hz, h⟩ := z_gd h
    cases h
    exact hq.2 hz _
  · cases h
    exact hq.1 rfl _

