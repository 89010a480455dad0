/-! the law's walks, by program: cell up fails -/
abbrev rm_L_cell : Room := { frames := 0, cells := 0, slots := 0, locals := 0 }
theorem w_L_cell_b18 {C : zC} {E : yE} (hx : y_ok C cL_cell RL E) (hn : z_nL C = 2) (hR : z_R C = rm_L_cell) {rr : Int × zS} (hq : y_fin C (some .int) (z_QI (z_g C) rr.1 rr.2)) (σ : zS) (s0 : Int) (h : f_L_cell_b18 E σ s0 = some rr) : y_W C σ 18 [] [.int (zi s0)] := by
  intro d hd
  unfold f_L_cell_b18 at h
  cases h
  exact y_iret hx hd hq dL_cell_18

theorem w_L_cell {C : zC} {E : yE} (hx : y_ok C cL_cell RL E) (hn : z_nL C = 2) (hR : z_R C = rm_L_cell) {rr : Int × zS} (hq : y_fin C (some .int) (z_QI (z_g C) rr.1 rr.2)) (σ : zS) (x1 : Int) (h : f_L_cell E σ x1 = some rr) : y_W C σ 0 [(0, .ref (e_b E)), (1, .int (zi x1))] [] := by
  intro d hd
  unfold f_L_cell at h
  refine z_iload_n (hx.1 d) 1 dL_cell_0 rfl ?_
  refine z_aload_n (hx.1 d) 0 dL_cell_1 rfl ?_
  refine y_slen hx dL_cell_2 ?_
  refine z_icmp_ge (hx.1 d) (tgt := 12) dL_cell_3 (by decide) h (fun h => h) (fun hc h => ?_) (fun hc h => ?_)
  · refine z_ldc (hx.1 d) (n := 763049417) wk_L_7 dL_cell_12 ?_
    refine z_iload_n (hx.1 d) 1 dL_cell_14 rfl ?_
    refine z_iconst (hx.1 d) (n := 3) dL_cell_15 ?_
    refine z_iadd (hx.1 d) dL_cell_16 ?_
    refine z_imul (hx.1 d) dL_cell_17 ?_
    refine z_sub [] rfl ?_
    exact w_L_cell_b18 hx hn hR hq σ (763049417 * (x1 + 3)) h d hd
  · refine z_aload_n (hx.1 d) 0 dL_cell_6 rfl ?_
    refine z_iload_n (hx.1 d) 1 dL_cell_7 rfl ?_
    refine y_sld hx dL_cell_8 h (fun h => ?_)
    refine z_goto (hx.1 d) (tgt := 18) dL_cell_9 (by decide) ?_
    refine z_sub [] rfl ?_
    exact w_L_cell_b18 hx hn hR hq σ (y_v E x1) h d hd

theorem met_L_cell (l : Launch) (g : zG) (E : yE) (hg : g.1 = 0) {σ : zS} {x1 : Int} {rr : Int × zS} (h : f_L_cell E σ x1 = some rr) : y_Met l yL_cell cL_cell 2 (some .int) rm_L_cell g E [.ref (e_b E), .int (zi x1)] σ (z_QI g rr.1 rr.2) := by
  refine y_enter (own := RL) (lv0 := [(0, .ref (e_b E)), (1, .int (zi x1))]) (by decide) rfl (Nat.le_of_ble_eq_true rfl) hg rfl (fun C hx hl hgC hR hn hq => ?_)
  subst hgC
  intro d hd
  refine z_sub [0, 1] rfl ?_
  exact w_L_cell hx hn hR hq σ x1 h d hd
abbrev rm_L_up : Room := { frames := 0, cells := 0, slots := 0, locals := 0 }
theorem w_L_up {C : zC} {E : yE} (hx : y_ok C cL_up RL E) (hn : z_nL C = 2) (hR : z_R C = rm_L_up) {rr : Int × zS} (hq : y_fin C (some .int) (z_QI (z_g C) rr.1 rr.2)) (σ : zS) (x0 : Int) (x1 : Int) (h : f_L_up σ x0 x1 = some rr) : y_W C σ 0 [(0, .int (zi x0)), (1, .int (zi x1))] [] := by
  intro d hd
  unfold f_L_up at h
  refine z_iload_n (hx.1 d) 0 dL_up_0 rfl ?_
  refine z_ldc (hx.1 d) (n := 2147483647) wk_L_8 dL_up_1 ?_
  refine y_iand (hx.1 d) dL_up_3 ?_
  refine z_iload_n (hx.1 d) 1 dL_up_4 rfl ?_
  refine z_irem (hx.1 d) dL_up_5 h (fun h => ?_)
  cases h
  exact y_iret hx hd hq dL_up_6

theorem met_L_up (l : Launch) (g : zG) (E : yE) (hg : g.1 = 0) {σ : zS} {x0 : Int} {x1 : Int} {rr : Int × zS} (h : f_L_up σ x0 x1 = some rr) : y_Met l yL_up cL_up 2 (some .int) rm_L_up g E [.int (zi x0), .int (zi x1)] σ (z_QI g rr.1 rr.2) := by
  refine y_enter (own := RL) (lv0 := [(0, .int (zi x0)), (1, .int (zi x1))]) (by decide) rfl (Nat.le_of_ble_eq_true rfl) hg rfl (fun C hx hl hgC hR hn hq => ?_)
  subst hgC
  intro d hd
  refine z_sub [0, 1] rfl ?_
  exact w_L_up hx hn hR hq σ x0 x1 h d hd
abbrev rm_L_fails : Room := { frames := 7, cells := 0, slots := 0, locals := 169 }
theorem w_L_fails_b413 {C : zC} {E : yE} (hx : y_ok C cL_fails RL E) (hn : z_nL C = 6) (hR : z_R C = rm_L_fails) {rr : Int × zS} (hq : y_fin C (some .boolean) (z_QI (z_g C) rr.1 rr.2)) (σ : zS) (s0 : Int) (h : f_L_fails_b413 σ s0 = some rr) : y_W C σ 413 [] [.int (zi s0)] := by
  intro d hd
  unfold f_L_fails_b413 at h
  obtain ⟨hz, h⟩ := z_gd h
  cases h
  exact y_zret hx hd hz hq dL_fails_413

theorem w_L_fails_b412 {C : zC} {E : yE} (hx : y_ok C cL_fails RL E) (hn : z_nL C = 6) (hR : z_R C = rm_L_fails) {rr : Int × zS} (hq : y_fin C (some .boolean) (z_QI (z_g C) rr.1 rr.2)) (σ : zS) (h : f_L_fails_b412 σ = some rr) : y_W C σ 412 [] [] := by
  intro d hd
  unfold f_L_fails_b412 at h
  refine z_iconst (hx.1 d) (n := 0) dL_fails_412 ?_
  refine z_sub [] rfl ?_
  exact w_L_fails_b413 hx hn hR hq σ 0 h d hd

theorem w_L_fails_b399 {C : zC} {E : yE} (hx : y_ok C cL_fails RL E) (hn : z_nL C = 6) (hR : z_R C = rm_L_fails) {rr : Int × zS} (hq : y_fin C (some .boolean) (z_QI (z_g C) rr.1 rr.2)) (σ : zS) (y1 : Int) (h : f_L_fails_b399 σ y1 = some rr) : y_W C σ 399 [(0, .ref (z_ad (z_g C) 62)), (1, .long (zl y1))] [] := by
  intro d hd
  unfold f_L_fails_b399 at h
  refine z_aload_n (hx.1 d) 0 dL_fails_399 rfl ?_
  obtain ⟨r2, σ1, h400, h⟩ := z_bind_some h
  refine z_calll (hx.1 d) (As := []) (k := 62) (met_X5_fingerprint (z_l C) (z_g C) (y_sd hx) h400) (z_lt0 (z_ok_sd (hx.1 d)) (by decide)) (z_kb62 (z_ok_sd (hx.1 d)) _) rfl rfl cv_L_9 (z_room hR ⟨Nat.le_of_ble_eq_true rfl, Nat.le_of_ble_eq_true rfl⟩) ⟨rfl, rfl⟩ rfl rfl (Nat.le_of_ble_eq_true rfl) dL_fails_400 ?_
  refine z_lload_n (hx.1 d) 1 dL_fails_403 rfl ?_
  refine y_lcmp (hx.1 d) dL_fails_404 h (fun h => ?_)
  refine z_if_ne (hx.1 d) (tgt := 412) dL_fails_405 (by decide) h (fun h => h) (fun hc h => ?_) (fun hc h => ?_)
  · refine z_sub [] rfl ?_
    exact w_L_fails_b412 hx hn hR hq σ1 h d hd
  · refine z_iconst (hx.1 d) (n := 1) dL_fails_408 ?_
    refine z_goto (hx.1 d) (tgt := 413) dL_fails_409 (by decide) ?_
    refine z_sub [] rfl ?_
    exact w_L_fails_b413 hx hn hR hq σ1 1 h d hd

theorem w_L_fails_b388 {C : zC} {E : yE} (hx : y_ok C cL_fails RL E) (hn : z_nL C = 6) (hR : z_R C = rm_L_fails) {rr : Int × zS} (hq : y_fin C (some .boolean) (z_QI (z_g C) rr.1 rr.2)) (σ : zS) (y1 : Int) (x3 : Int) (h : f_L_fails_b388 σ y1 x3 = some rr) : y_W C σ 388 [(0, .ref (z_ad (z_g C) 62)), (1, .long (zl y1)), (3, .int (zi x3))] [] := by
  intro d hd
  unfold f_L_fails_b388 at h
  refine z_iload_n (hx.1 d) 2 dL_fails_388 rfl ?_
  refine z_if_gt (hx.1 d) (tgt := 399) dL_fails_389 (by decide) h (fun h => h) (fun hc h => ?_) (fun hc h => ?_)
  · refine z_sub [0, 1] rfl ?_
    exact w_L_fails_b399 hx hn hR hq σ y1 h d hd
  · refine z_aload_n (hx.1 d) 0 dL_fails_392 rfl ?_
    obtain ⟨r2, σ1, h393, h⟩ := z_bind_some h
    refine z_calli (hx.1 d) (As := []) (k := 62) (met_X5_undo (z_l C) (z_g C) (y_sd hx) h393) (z_lt0 (z_ok_sd (hx.1 d)) (by decide)) (z_kb62 (z_ok_sd (hx.1 d)) _) rfl rfl cv_L_74 (z_room hR ⟨Nat.le_of_ble_eq_true rfl, Nat.le_of_ble_eq_true rfl⟩) ⟨rfl, rfl⟩ rfl rfl (Nat.le_of_ble_eq_true rfl) dL_fails_393 ?_
    refine z_if_lt (hx.1 d) (tgt := 412) dL_fails_396 (by decide) h (fun h => h) (fun hc h => ?_) (fun hc h => ?_)
    · refine z_sub [] rfl ?_
      exact w_L_fails_b412 hx hn hR hq σ1 h d hd
    · refine z_sub [0, 1] rfl ?_
      exact w_L_fails_b399 hx hn hR hq σ1 y1 h d hd

theorem w_L_fails_b385 {C : zC} {E : yE} (hx : y_ok C cL_fails RL E) (hn : z_nL C = 6) (hR : z_R C = rm_L_fails) {rr : Int × zS} (hq : y_fin C (some .boolean) (z_QI (z_g C) rr.1 rr.2)) (σ : zS) (y1 : Int) (x3 : Int) (s0 : Int) (s1 : Int) (h : f_L_fails_b385 σ y1 x3 s0 s1 = some rr) : y_W C σ 385 [(0, .ref (z_ad (z_g C) 62)), (1, .long (zl y1)), (3, .int (zi x3))] [.int (zi s1), .int (zi s0)] := by
  intro d hd
  unfold f_L_fails_b385 at h
  refine z_icmp_ne (hx.1 d) (tgt := 412) dL_fails_385 (by decide) h (fun h => h) (fun hc h => ?_) (fun hc h => ?_)
  · refine z_sub [] rfl ?_
    exact w_L_fails_b412 hx hn hR hq σ h d hd
  · refine z_sub [0, 1, 2] rfl ?_
    exact w_L_fails_b388 hx hn hR hq σ y1 x3 h d hd

theorem w_L_fails_b351 {C : zC} {E : yE} (hx : y_ok C cL_fails RL E) (hn : z_nL C = 6) (hR : z_R C = rm_L_fails) {rr : Int × zS} (hq : y_fin C (some .boolean) (z_QI (z_g C) rr.1 rr.2)) (σ : zS) (y1 : Int) (x3 : Int) (s0 : Int) (h : f_L_fails_b351 σ y1 x3 s0 = some rr) : y_W C σ 351 [(0, .ref (z_ad (z_g C) 62)), (1, .long (zl y1)), (3, .int (zi x3))] [.int (zi s0)] := by
  intro d hd
  unfold f_L_fails_b351 at h
  refine z_istore (hx.1 d) hn (lv' := [(5, .int (zi s0)), (0, .ref (z_ad (z_g C) 62)), (1, .long (zl y1)), (3, .int (zi x3))]) dL_fails_351 (by decide) rfl ?_
  refine z_iload (hx.1 d) 0 dL_fails_353 rfl ?_
  refine z_if_eq (hx.1 d) (tgt := 412) dL_fails_355 (by decide) h (fun h => h) (fun hc h => ?_) (fun hc h => ?_)
  · refine z_sub [] rfl ?_
    exact w_L_fails_b412 hx hn hR hq σ h d hd
  · refine z_iload_n (hx.1 d) 3 dL_fails_358 rfl ?_
    refine z_sipush (hx.1 d) (n := 200) dL_fails_359 rfl ?_
    refine z_icmp_eq (hx.1 d) (tgt := 388) dL_fails_362 (by decide) h (fun h => ⟨h, by decide⟩) (fun hc h => ?_) (fun hc h => ?_)
    · refine z_sub [1, 2, 3] rfl ?_
      exact w_L_fails_b388 hx hn hR hq σ y1 x3 h d hd
    · refine z_aload_n (hx.1 d) 1 dL_fails_365 rfl ?_
      refine z_iconst (hx.1 d) (n := 1) dL_fails_366 ?_
      refine z_sipush (hx.1 d) (n := 200) dL_fails_367 rfl ?_
      obtain ⟨r2, σ1, h370, h⟩ := z_bind_some h
      refine z_calli (hx.1 d) (As := [.int (zi 1), .int (zi 200)]) (k := 62) (met_X5_append (z_l C) (z_g C) (y_sd hx) h370) (z_lt0 (z_ok_sd (hx.1 d)) (by decide)) (z_kb62 (z_ok_sd (hx.1 d)) _) rfl rfl cv_L_19 (z_room hR ⟨Nat.le_of_ble_eq_true rfl, Nat.le_of_ble_eq_true rfl⟩) ⟨rfl, rfl⟩ rfl rfl (Nat.le_of_ble_eq_true rfl) dL_fails_370 ?_
      refine z_iload_n (hx.1 d) 3 dL_fails_373 rfl ?_
      refine z_if_ne (hx.1 d) (tgt := 383) dL_fails_374 (by decide) h (fun h => h) (fun hc h => ?_) (fun hc h => ?_)
      · refine z_bipush (hx.1 d) (n := (-3)) dL_fails_383 rfl ?_
        refine z_sub [1, 2, 3] rfl ?_
        exact w_L_fails_b385 hx hn hR hq σ1 y1 x3 r2 (-3) h d hd
      · refine z_sipush (hx.1 d) (n := 200) dL_fails_377 rfl ?_
        refine z_goto (hx.1 d) (tgt := 385) dL_fails_380 (by decide) ?_
        refine z_sub [1, 2, 3] rfl ?_
        exact w_L_fails_b385 hx hn hR hq σ1 y1 x3 r2 200 h d hd

theorem w_L_fails_b350 {C : zC} {E : yE} (hx : y_ok C cL_fails RL E) (hn : z_nL C = 6) (hR : z_R C = rm_L_fails) {rr : Int × zS} (hq : y_fin C (some .boolean) (z_QI (z_g C) rr.1 rr.2)) (σ : zS) (y1 : Int) (x3 : Int) (h : f_L_fails_b350 σ y1 x3 = some rr) : y_W C σ 350 [(0, .ref (z_ad (z_g C) 62)), (1, .long (zl y1)), (3, .int (zi x3))] [] := by
  intro d hd
  unfold f_L_fails_b350 at h
  refine z_iconst (hx.1 d) (n := 0) dL_fails_350 ?_
  refine z_sub [0, 1, 2] rfl ?_
  exact w_L_fails_b351 hx hn hR hq σ y1 x3 0 h d hd

theorem w_L_fails_b185 {C : zC} {E : yE} (hx : y_ok C cL_fails RL E) (hn : z_nL C = 6) (hR : z_R C = rm_L_fails) {rr : Int × zS} (hq : y_fin C (some .boolean) (z_QI (z_g C) rr.1 rr.2)) (σ : zS) (y1 : Int) (x3 : Int) (x4 : Int) (s0 : Int) (h : f_L_fails_b185 σ y1 x3 x4 s0 = some rr) : y_W C σ 185 [(0, .ref (z_ad (z_g C) 62)), (1, .long (zl y1)), (3, .int (zi x3)), (4, .int (zi x4))] [.int (zi s0)] := by
  intro d hd
  unfold f_L_fails_b185 at h
  refine z_istore (hx.1 d) hn (lv' := [(5, .int (zi s0)), (0, .ref (z_ad (z_g C) 62)), (1, .long (zl y1)), (3, .int (zi x3)), (4, .int (zi x4))]) dL_fails_185 (by decide) rfl ?_
  refine z_iload (hx.1 d) 0 dL_fails_187 rfl ?_
  refine z_if_eq (hx.1 d) (tgt := 350) dL_fails_189 (by decide) h (fun h => h) (fun hc h => ?_) (fun hc h => ?_)
  · refine z_sub [1, 2, 3] rfl ?_
    exact w_L_fails_b350 hx hn hR hq σ y1 x3 h d hd
  · refine z_aload_n (hx.1 d) 1 dL_fails_192 rfl ?_
    refine z_iconst (hx.1 d) (n := 2) dL_fails_193 ?_
    refine z_bipush (hx.1 d) (n := 21) dL_fails_194 rfl ?_
    obtain ⟨r2, σ1, h196, h⟩ := z_bind_some h
    refine y_callset hx (As := [.int (zi 2), .int (zi 21)]) (met_X5_set (z_l C) (z_g C) (y_sd hx) h196) rfl cv_L_37 (z_room hR ⟨Nat.le_of_ble_eq_true rfl, Nat.le_of_ble_eq_true rfl⟩) ⟨rfl, rfl⟩ rfl rfl (Nat.le_of_ble_eq_true rfl) dL_fails_196 ?_
    refine z_iconst (hx.1 d) (n := (-1)) dL_fails_199 ?_
    refine z_icmp_ne (hx.1 d) (tgt := 350) dL_fails_200 (by decide) h (fun h => ⟨h, by decide⟩) (fun hc h => ?_) (fun hc h => ?_)
    · refine z_sub [1, 2, 3] rfl ?_
      exact w_L_fails_b350 hx hn hR hq σ1 y1 x3 h d hd
    · refine z_aload_n (hx.1 d) 1 dL_fails_203 rfl ?_
      refine z_iconst (hx.1 d) (n := 5) dL_fails_204 ?_
      refine z_bipush (hx.1 d) (n := 51) dL_fails_205 rfl ?_
      obtain ⟨r4, σ3, h207, h⟩ := z_bind_some h
      refine y_callset hx (As := [.int (zi 5), .int (zi 51)]) (met_X5_set (z_l C) (z_g C) (y_sd hx) h207) rfl cv_L_37 (z_room hR ⟨Nat.le_of_ble_eq_true rfl, Nat.le_of_ble_eq_true rfl⟩) ⟨rfl, rfl⟩ rfl rfl (Nat.le_of_ble_eq_true rfl) dL_fails_207 ?_
      refine z_iconst (hx.1 d) (n := (-1)) dL_fails_210 ?_
      refine z_icmp_ne (hx.1 d) (tgt := 350) dL_fails_211 (by decide) h (fun h => ⟨h, by decide⟩) (fun hc h => ?_) (fun hc h => ?_)
      · refine z_sub [1, 2, 3] rfl ?_
        exact w_L_fails_b350 hx hn hR hq σ3 y1 x3 h d hd
      · refine z_aload_n (hx.1 d) 1 dL_fails_214 rfl ?_
        refine z_bipush (hx.1 d) (n := 9) dL_fails_215 rfl ?_
        obtain ⟨r6, σ5, h217, h⟩ := z_bind_some h
        refine z_calli (hx.1 d) (As := [.int (zi 9)]) (k := 62) (met_X5_setting (z_l C) (z_g C) (y_sd hx) h217) (z_lt0 (z_ok_sd (hx.1 d)) (by decide)) (z_kb62 (z_ok_sd (hx.1 d)) _) rfl rfl cv_L_15 (z_room hR ⟨Nat.le_of_ble_eq_true rfl, Nat.le_of_ble_eq_true rfl⟩) ⟨rfl, rfl⟩ rfl rfl (Nat.le_of_ble_eq_true rfl) dL_fails_217 ?_
        refine z_iconst (hx.1 d) (n := (-1)) dL_fails_220 ?_
        refine z_icmp_ne (hx.1 d) (tgt := 350) dL_fails_221 (by decide) h (fun h => ⟨h, by decide⟩) (fun hc h => ?_) (fun hc h => ?_)
        · refine z_sub [1, 2, 3] rfl ?_
          exact w_L_fails_b350 hx hn hR hq σ5 y1 x3 h d hd
        · refine z_aload_n (hx.1 d) 1 dL_fails_224 rfl ?_
          refine z_iload (hx.1 d) 4 dL_fails_225 rfl ?_
          refine z_iconst (hx.1 d) (n := 0) dL_fails_227 ?_
          obtain ⟨r8, σ7, h228, h⟩ := z_bind_some h
          refine z_calli (hx.1 d) (As := [.int (zi x4), .int (zi 0)]) (k := 62) (met_X5_about (z_l C) (z_g C) (y_sd hx) h228) (z_lt0 (z_ok_sd (hx.1 d)) (by decide)) (z_kb62 (z_ok_sd (hx.1 d)) _) rfl rfl cv_L_40 (z_room hR ⟨Nat.le_of_ble_eq_true rfl, Nat.le_of_ble_eq_true rfl⟩) ⟨rfl, rfl⟩ rfl rfl (Nat.le_of_ble_eq_true rfl) dL_fails_228 ?_
          refine z_iconst (hx.1 d) (n := (-1)) dL_fails_231 ?_
          refine z_icmp_ne (hx.1 d) (tgt := 350) dL_fails_232 (by decide) h (fun h => ⟨h, by decide⟩) (fun hc h => ?_) (fun hc h => ?_)
          · refine z_sub [1, 2, 3] rfl ?_
            exact w_L_fails_b350 hx hn hR hq σ7 y1 x3 h d hd
          · refine z_aload_n (hx.1 d) 1 dL_fails_235 rfl ?_
            refine z_iload_n (hx.1 d) 3 dL_fails_236 rfl ?_
            obtain ⟨r10, σ9, h237, h⟩ := z_bind_some h
            refine z_calli (hx.1 d) (As := [.int (zi x3)]) (k := 62) (met_X5_level (z_l C) (z_g C) (y_sd hx) h237) (z_lt0 (z_ok_sd (hx.1 d)) (by decide)) (z_kb62 (z_ok_sd (hx.1 d)) _) rfl rfl cv_L_43 (z_room hR ⟨Nat.le_of_ble_eq_true rfl, Nat.le_of_ble_eq_true rfl⟩) ⟨rfl, rfl⟩ rfl rfl (Nat.le_of_ble_eq_true rfl) dL_fails_237 ?_
            refine z_iconst (hx.1 d) (n := (-1)) dL_fails_240 ?_
            refine z_icmp_ne (hx.1 d) (tgt := 350) dL_fails_241 (by decide) h (fun h => ⟨h, by decide⟩) (fun hc h => ?_) (fun hc h => ?_)
            · refine z_sub [1, 2, 3] rfl ?_
              exact w_L_fails_b350 hx hn hR hq σ9 y1 x3 h d hd
            · refine z_aload_n (hx.1 d) 1 dL_fails_244 rfl ?_
              refine z_iconst (hx.1 d) (n := (-1)) dL_fails_245 ?_
              obtain ⟨r12, σ11, h246, h⟩ := z_bind_some h
              refine z_calli (hx.1 d) (As := [.int (zi (-1))]) (k := 62) (met_X5_level (z_l C) (z_g C) (y_sd hx) h246) (z_lt0 (z_ok_sd (hx.1 d)) (by decide)) (z_kb62 (z_ok_sd (hx.1 d)) _) rfl rfl cv_L_43 (z_room hR ⟨Nat.le_of_ble_eq_true rfl, Nat.le_of_ble_eq_true rfl⟩) ⟨rfl, rfl⟩ rfl rfl (Nat.le_of_ble_eq_true rfl) dL_fails_246 ?_
              refine z_iconst (hx.1 d) (n := (-1)) dL_fails_249 ?_
              refine z_icmp_ne (hx.1 d) (tgt := 350) dL_fails_250 (by decide) h (fun h => ⟨h, by decide⟩) (fun hc h => ?_) (fun hc h => ?_)
              · refine z_sub [1, 2, 3] rfl ?_
                exact w_L_fails_b350 hx hn hR hq σ11 y1 x3 h d hd
              · refine z_aload_n (hx.1 d) 1 dL_fails_253 rfl ?_
                refine z_aload_n (hx.1 d) 1 dL_fails_254 rfl ?_
                obtain ⟨r14, σ13, h255, h⟩ := z_bind_some h
                refine z_calli (hx.1 d) (As := []) (k := 62) (met_X5_cuts (z_l C) (z_g C) (y_sd hx) h255) (z_lt0 (z_ok_sd (hx.1 d)) (by decide)) (z_kb62 (z_ok_sd (hx.1 d)) _) rfl rfl cv_L_46 (z_room hR ⟨Nat.le_of_ble_eq_true rfl, Nat.le_of_ble_eq_true rfl⟩) ⟨rfl, rfl⟩ rfl rfl (Nat.le_of_ble_eq_true rfl) dL_fails_255 ?_
                refine z_iconst (hx.1 d) (n := 0) dL_fails_258 ?_
                obtain ⟨r16, σ15, h259, h⟩ := z_bind_some h
                refine z_calli (hx.1 d) (As := [.int (zi r14), .int (zi 0)]) (k := 62) (met_X5_cut (z_l C) (z_g C) (y_sd hx) h259) (z_lt0 (z_ok_sd (hx.1 d)) (by decide)) (z_kb62 (z_ok_sd (hx.1 d)) _) rfl rfl cv_L_50 (z_room hR ⟨Nat.le_of_ble_eq_true rfl, Nat.le_of_ble_eq_true rfl⟩) ⟨rfl, rfl⟩ rfl rfl (Nat.le_of_ble_eq_true rfl) dL_fails_259 ?_
                refine z_iconst (hx.1 d) (n := (-1)) dL_fails_262 ?_
                refine z_icmp_ne (hx.1 d) (tgt := 350) dL_fails_263 (by decide) h (fun h => ⟨h, by decide⟩) (fun hc h => ?_) (fun hc h => ?_)
                · refine z_sub [1, 2, 3] rfl ?_
                  exact w_L_fails_b350 hx hn hR hq σ15 y1 x3 h d hd
                · refine z_aload_n (hx.1 d) 1 dL_fails_266 rfl ?_
                  refine z_iconst (hx.1 d) (n := 0) dL_fails_267 ?_
                  refine z_iconst (hx.1 d) (n := 5) dL_fails_268 ?_
                  obtain ⟨r18, σ17, h269, h⟩ := z_bind_some h
                  refine z_calli (hx.1 d) (As := [.int (zi 0), .int (zi 5)]) (k := 62) (met_X5_cut (z_l C) (z_g C) (y_sd hx) h269) (z_lt0 (z_ok_sd (hx.1 d)) (by decide)) (z_kb62 (z_ok_sd (hx.1 d)) _) rfl rfl cv_L_50 (z_room hR ⟨Nat.le_of_ble_eq_true rfl, Nat.le_of_ble_eq_true rfl⟩) ⟨rfl, rfl⟩ rfl rfl (Nat.le_of_ble_eq_true rfl) dL_fails_269 ?_
                  refine z_iconst (hx.1 d) (n := (-1)) dL_fails_272 ?_
                  refine z_icmp_ne (hx.1 d) (tgt := 350) dL_fails_273 (by decide) h (fun h => ⟨h, by decide⟩) (fun hc h => ?_) (fun hc h => ?_)
                  · refine z_sub [1, 2, 3] rfl ?_
                    exact w_L_fails_b350 hx hn hR hq σ17 y1 x3 h d hd
                  · refine z_aload_n (hx.1 d) 1 dL_fails_276 rfl ?_
                    refine z_iconst (hx.1 d) (n := 3) dL_fails_277 ?_
                    obtain ⟨r20, σ19, h278, h⟩ := z_bind_some h
                    refine z_calli (hx.1 d) (As := [.int (zi 3)]) (k := 62) (met_X5_sum (z_l C) (z_g C) (y_sd hx) h278) (z_lt0 (z_ok_sd (hx.1 d)) (by decide)) (z_kb62 (z_ok_sd (hx.1 d)) _) rfl rfl cv_L_53 (z_room hR ⟨Nat.le_of_ble_eq_true rfl, Nat.le_of_ble_eq_true rfl⟩) ⟨rfl, rfl⟩ rfl rfl (Nat.le_of_ble_eq_true rfl) dL_fails_278 ?_
                    refine z_iconst (hx.1 d) (n := (-1)) dL_fails_281 ?_
                    refine z_icmp_ne (hx.1 d) (tgt := 350) dL_fails_282 (by decide) h (fun h => ⟨h, by decide⟩) (fun hc h => ?_) (fun hc h => ?_)
                    · refine z_sub [1, 2, 3] rfl ?_
                      exact w_L_fails_b350 hx hn hR hq σ19 y1 x3 h d hd
                    · refine z_aload_n (hx.1 d) 1 dL_fails_285 rfl ?_
                      refine z_iconst (hx.1 d) (n := (-1)) dL_fails_286 ?_
                      obtain ⟨r22, σ21, h287, h⟩ := z_bind_some h
                      refine z_calli (hx.1 d) (As := [.int (zi (-1))]) (k := 62) (met_X5_greatestDoubt (z_l C) (z_g C) (y_sd hx) h287) (z_lt0 (z_ok_sd (hx.1 d)) (by decide)) (z_kb62 (z_ok_sd (hx.1 d)) _) rfl rfl cv_L_56 (z_room hR ⟨Nat.le_of_ble_eq_true rfl, Nat.le_of_ble_eq_true rfl⟩) ⟨rfl, rfl⟩ rfl rfl (Nat.le_of_ble_eq_true rfl) dL_fails_287 ?_
                      refine z_iconst (hx.1 d) (n := (-1)) dL_fails_290 ?_
                      refine z_icmp_ne (hx.1 d) (tgt := 350) dL_fails_291 (by decide) h (fun h => ⟨h, by decide⟩) (fun hc h => ?_) (fun hc h => ?_)
                      · refine z_sub [1, 2, 3] rfl ?_
                        exact w_L_fails_b350 hx hn hR hq σ21 y1 x3 h d hd
                      · refine z_aload_n (hx.1 d) 1 dL_fails_294 rfl ?_
                        refine z_aload_n (hx.1 d) 1 dL_fails_295 rfl ?_
                        obtain ⟨r24, σ23, h296, h⟩ := z_bind_some h
                        refine z_calli (hx.1 d) (As := []) (k := 62) (met_X5_length (z_l C) (z_g C) (y_sd hx) h296) (z_lt0 (z_ok_sd (hx.1 d)) (by decide)) (z_kb62 (z_ok_sd (hx.1 d)) _) rfl rfl cv_L_59 (z_room hR ⟨Nat.le_of_ble_eq_true rfl, Nat.le_of_ble_eq_true rfl⟩) ⟨rfl, rfl⟩ rfl rfl (Nat.le_of_ble_eq_true rfl) dL_fails_296 ?_
                        refine z_iconst (hx.1 d) (n := 0) dL_fails_299 ?_
                        obtain ⟨r26, σ25, h300, h⟩ := z_bind_some h
                        refine z_calli (hx.1 d) (As := [.int (zi r24), .int (zi 0)]) (k := 62) (met_X5_heard (z_l C) (z_g C) (y_sd hx) h300) (z_lt0 (z_ok_sd (hx.1 d)) (by decide)) (z_kb62 (z_ok_sd (hx.1 d)) _) rfl rfl cv_L_62 (z_room hR ⟨Nat.le_of_ble_eq_true rfl, Nat.le_of_ble_eq_true rfl⟩) ⟨rfl, rfl⟩ rfl rfl (Nat.le_of_ble_eq_true rfl) dL_fails_300 ?_
                        refine z_iconst (hx.1 d) (n := (-1)) dL_fails_303 ?_
                        refine z_icmp_ne (hx.1 d) (tgt := 350) dL_fails_304 (by decide) h (fun h => ⟨h, by decide⟩) (fun hc h => ?_) (fun hc h => ?_)
                        · refine z_sub [1, 2, 3] rfl ?_
                          exact w_L_fails_b350 hx hn hR hq σ25 y1 x3 h d hd
                        · refine z_aload_n (hx.1 d) 1 dL_fails_307 rfl ?_
                          refine z_iconst (hx.1 d) (n := 0) dL_fails_308 ?_
                          refine z_iconst (hx.1 d) (n := 2) dL_fails_309 ?_
                          obtain ⟨r28, σ27, h310, h⟩ := z_bind_some h
                          refine z_calli (hx.1 d) (As := [.int (zi 0), .int (zi 2)]) (k := 62) (met_X5_heard (z_l C) (z_g C) (y_sd hx) h310) (z_lt0 (z_ok_sd (hx.1 d)) (by decide)) (z_kb62 (z_ok_sd (hx.1 d)) _) rfl rfl cv_L_62 (z_room hR ⟨Nat.le_of_ble_eq_true rfl, Nat.le_of_ble_eq_true rfl⟩) ⟨rfl, rfl⟩ rfl rfl (Nat.le_of_ble_eq_true rfl) dL_fails_310 ?_
                          refine z_iconst (hx.1 d) (n := (-1)) dL_fails_313 ?_
                          refine z_icmp_ne (hx.1 d) (tgt := 350) dL_fails_314 (by decide) h (fun h => ⟨h, by decide⟩) (fun hc h => ?_) (fun hc h => ?_)
                          · refine z_sub [1, 2, 3] rfl ?_
                            exact w_L_fails_b350 hx hn hR hq σ27 y1 x3 h d hd
                          · refine z_aload_n (hx.1 d) 1 dL_fails_317 rfl ?_
                            refine z_iload_n (hx.1 d) 3 dL_fails_318 rfl ?_
                            obtain ⟨r30, σ29, h319, h⟩ := z_bind_some h
                            refine z_calli (hx.1 d) (As := [.int (zi x3)]) (k := 62) (met_X5_where (z_l C) (z_g C) (y_sd hx) h319) (z_lt0 (z_ok_sd (hx.1 d)) (by decide)) (z_kb62 (z_ok_sd (hx.1 d)) _) rfl rfl cv_L_65 (z_room hR ⟨Nat.le_of_ble_eq_true rfl, Nat.le_of_ble_eq_true rfl⟩) ⟨rfl, rfl⟩ rfl rfl (Nat.le_of_ble_eq_true rfl) dL_fails_319 ?_
                            refine z_iconst (hx.1 d) (n := (-1)) dL_fails_322 ?_
                            refine z_icmp_ne (hx.1 d) (tgt := 350) dL_fails_323 (by decide) h (fun h => ⟨h, by decide⟩) (fun hc h => ?_) (fun hc h => ?_)
                            · refine z_sub [1, 2, 3] rfl ?_
                              exact w_L_fails_b350 hx hn hR hq σ29 y1 x3 h d hd
                            · refine z_aload_n (hx.1 d) 1 dL_fails_326 rfl ?_
                              refine z_bipush (hx.1 d) (n := 10) dL_fails_327 rfl ?_
                              obtain ⟨r32, σ31, h329, h⟩ := z_bind_some h
                              refine z_calli (hx.1 d) (As := [.int (zi 10)]) (k := 62) (met_X5_clicks (z_l C) (z_g C) (y_sd hx) h329) (z_lt0 (z_ok_sd (hx.1 d)) (by decide)) (z_kb62 (z_ok_sd (hx.1 d)) _) rfl rfl cv_L_68 (z_room hR ⟨Nat.le_of_ble_eq_true rfl, Nat.le_of_ble_eq_true rfl⟩) ⟨rfl, rfl⟩ rfl rfl (Nat.le_of_ble_eq_true rfl) dL_fails_329 ?_
                              refine z_iconst (hx.1 d) (n := (-1)) dL_fails_332 ?_
                              refine z_icmp_ne (hx.1 d) (tgt := 350) dL_fails_333 (by decide) h (fun h => ⟨h, by decide⟩) (fun hc h => ?_) (fun hc h => ?_)
                              · refine z_sub [1, 2, 3] rfl ?_
                                exact w_L_fails_b350 hx hn hR hq σ31 y1 x3 h d hd
                              · refine z_aload_n (hx.1 d) 1 dL_fails_336 rfl ?_
                                refine z_bipush (hx.1 d) (n := 31) dL_fails_337 rfl ?_
                                obtain ⟨r34, σ33, h339, h⟩ := z_bind_some h
                                refine z_calli (hx.1 d) (As := [.int (zi 31)]) (k := 62) (met_X5_type (z_l C) (z_g C) (y_sd hx) h339) (z_lt0 (z_ok_sd (hx.1 d)) (by decide)) (z_kb62 (z_ok_sd (hx.1 d)) _) rfl rfl cv_L_71 (z_room hR ⟨Nat.le_of_ble_eq_true rfl, Nat.le_of_ble_eq_true rfl⟩) ⟨rfl, rfl⟩ rfl rfl (Nat.le_of_ble_eq_true rfl) dL_fails_339 ?_
                                refine z_iconst (hx.1 d) (n := (-1)) dL_fails_342 ?_
                                refine z_icmp_ne (hx.1 d) (tgt := 350) dL_fails_343 (by decide) h (fun h => ⟨h, by decide⟩) (fun hc h => ?_) (fun hc h => ?_)
                                · refine z_sub [1, 2, 3] rfl ?_
                                  exact w_L_fails_b350 hx hn hR hq σ33 y1 x3 h d hd
                                · refine z_iconst (hx.1 d) (n := 1) dL_fails_346 ?_
                                  refine z_goto (hx.1 d) (tgt := 351) dL_fails_347 (by decide) ?_
                                  refine z_sub [1, 2, 3] rfl ?_
                                  exact w_L_fails_b351 hx hn hR hq σ33 y1 x3 1 h d hd

theorem w_L_fails_b184 {C : zC} {E : yE} (hx : y_ok C cL_fails RL E) (hn : z_nL C = 6) (hR : z_R C = rm_L_fails) {rr : Int × zS} (hq : y_fin C (some .boolean) (z_QI (z_g C) rr.1 rr.2)) (σ : zS) (y1 : Int) (x3 : Int) (x4 : Int) (h : f_L_fails_b184 σ y1 x3 x4 = some rr) : y_W C σ 184 [(0, .ref (z_ad (z_g C) 62)), (1, .long (zl y1)), (3, .int (zi x3)), (4, .int (zi x4))] [] := by
  intro d hd
  unfold f_L_fails_b184 at h
  refine z_iconst (hx.1 d) (n := 0) dL_fails_184 ?_
  refine z_sub [0, 1, 2, 3] rfl ?_
  exact w_L_fails_b185 hx hn hR hq σ y1 x3 x4 0 h d hd

theorem w_L_fails {C : zC} {E : yE} (hx : y_ok C cL_fails RL E) (hn : z_nL C = 6) (hR : z_R C = rm_L_fails) {rr : Int × zS} (hq : y_fin C (some .boolean) (z_QI (z_g C) rr.1 rr.2)) (σ : zS) (h : f_L_fails σ = some rr) : y_W C σ 0 [(0, .ref (z_ad (z_g C) 62))] [] := by
  intro d hd
  unfold f_L_fails at h
  refine z_aload_n (hx.1 d) 0 dL_fails_0 rfl ?_
  obtain ⟨r2, σ1, h1, h⟩ := z_bind_some h
  refine z_calll (hx.1 d) (As := []) (k := 62) (met_X5_fingerprint (z_l C) (z_g C) (y_sd hx) h1) (z_lt0 (z_ok_sd (hx.1 d)) (by decide)) (z_kb62 (z_ok_sd (hx.1 d)) _) rfl rfl cv_L_9 (z_room hR ⟨Nat.le_of_ble_eq_true rfl, Nat.le_of_ble_eq_true rfl⟩) ⟨rfl, rfl⟩ rfl rfl (Nat.le_of_ble_eq_true rfl) dL_fails_1 ?_
  refine z_lstore_n (hx.1 d) hn (lv' := [(1, .long (zl r2)), (0, .ref (z_ad (z_g C) 62))]) dL_fails_4 (by decide) rfl ?_
  refine z_aload_n (hx.1 d) 1 dL_fails_5 rfl ?_
  refine z_bipush (hx.1 d) (n := 7) dL_fails_6 rfl ?_
  obtain ⟨r4, σ3, h8, h⟩ := z_bind_some h
  refine z_calli (hx.1 d) (As := [.int (zi 7)]) (k := 62) (met_X5_setting (z_l C) (z_g C) (y_sd hx) h8) (z_lt0 (z_ok_sd (hx.1 d)) (by decide)) (z_kb62 (z_ok_sd (hx.1 d)) _) rfl rfl cv_L_15 (z_room hR ⟨Nat.le_of_ble_eq_true rfl, Nat.le_of_ble_eq_true rfl⟩) ⟨rfl, rfl⟩ rfl rfl (Nat.le_of_ble_eq_true rfl) dL_fails_8 ?_
  refine z_istore_n (hx.1 d) hn (lv' := [(3, .int (zi r4)), (1, .long (zl r2)), (0, .ref (z_ad (z_g C) 62))]) dL_fails_11 (by decide) rfl ?_
  refine z_aload_n (hx.1 d) 2 dL_fails_12 rfl ?_
  refine z_bipush (hx.1 d) (n := 8) dL_fails_13 rfl ?_
  obtain ⟨r6, σ5, h15, h⟩ := z_bind_some h
  refine z_calli (hx.1 d) (As := [.int (zi 8)]) (k := 62) (met_X5_setting (z_l C) (z_g C) (y_sd hx) h15) (z_lt0 (z_ok_sd (hx.1 d)) (by decide)) (z_kb62 (z_ok_sd (hx.1 d)) _) rfl rfl cv_L_15 (z_room hR ⟨Nat.le_of_ble_eq_true rfl, Nat.le_of_ble_eq_true rfl⟩) ⟨rfl, rfl⟩ rfl rfl (Nat.le_of_ble_eq_true rfl) dL_fails_15 ?_
  refine z_istore (hx.1 d) hn (lv' := [(4, .int (zi r6)), (3, .int (zi r4)), (1, .long (zl r2)), (0, .ref (z_ad (z_g C) 62))]) dL_fails_18 (by decide) rfl ?_
  refine z_aload_n (hx.1 d) 3 dL_fails_20 rfl ?_
  refine z_bipush (hx.1 d) (n := 10) dL_fails_21 rfl ?_
  refine z_iconst (hx.1 d) (n := 1) dL_fails_23 ?_
  obtain ⟨r8, σ7, h24, h⟩ := z_bind_some h
  refine z_calli (hx.1 d) (As := [.int (zi 10), .int (zi 1)]) (k := 62) (met_X5_append (z_l C) (z_g C) (y_sd hx) h24) (z_lt0 (z_ok_sd (hx.1 d)) (by decide)) (z_kb62 (z_ok_sd (hx.1 d)) _) rfl rfl cv_L_19 (z_room hR ⟨Nat.le_of_ble_eq_true rfl, Nat.le_of_ble_eq_true rfl⟩) ⟨rfl, rfl⟩ rfl rfl (Nat.le_of_ble_eq_true rfl) dL_fails_24 ?_
  refine z_iconst (hx.1 d) (n := (-1)) dL_fails_27 ?_
  refine z_icmp_ne (hx.1 d) (tgt := 184) dL_fails_28 (by decide) h (fun h => ⟨h, by decide⟩) (fun hc h => ?_) (fun hc h => ?_)
  · refine z_sub [3, 2, 1, 0] rfl ?_
    exact w_L_fails_b184 hx hn hR hq σ7 r2 r4 r6 h d hd
  · refine z_aload_n (hx.1 d) 3 dL_fails_31 rfl ?_
    refine z_iconst (hx.1 d) (n := 0) dL_fails_32 ?_
    refine z_iconst (hx.1 d) (n := 0) dL_fails_33 ?_
    obtain ⟨r10, σ9, h34, h⟩ := z_bind_some h
    refine z_calli (hx.1 d) (As := [.int (zi 0), .int (zi 0)]) (k := 62) (met_X5_append (z_l C) (z_g C) (y_sd hx) h34) (z_lt0 (z_ok_sd (hx.1 d)) (by decide)) (z_kb62 (z_ok_sd (hx.1 d)) _) rfl rfl cv_L_19 (z_room hR ⟨Nat.le_of_ble_eq_true rfl, Nat.le_of_ble_eq_true rfl⟩) ⟨rfl, rfl⟩ rfl rfl (Nat.le_of_ble_eq_true rfl) dL_fails_34 ?_
    refine z_iconst (hx.1 d) (n := (-1)) dL_fails_37 ?_
    refine z_icmp_ne (hx.1 d) (tgt := 184) dL_fails_38 (by decide) h (fun h => ⟨h, by decide⟩) (fun hc h => ?_) (fun hc h => ?_)
    · refine z_sub [3, 2, 1, 0] rfl ?_
      exact w_L_fails_b184 hx hn hR hq σ9 r2 r4 r6 h d hd
    · refine z_aload_n (hx.1 d) 3 dL_fails_41 rfl ?_
      refine z_iconst (hx.1 d) (n := 0) dL_fails_42 ?_
      refine z_sipush (hx.1 d) (n := 201) dL_fails_43 rfl ?_
      obtain ⟨r12, σ11, h46, h⟩ := z_bind_some h
      refine z_calli (hx.1 d) (As := [.int (zi 0), .int (zi 201)]) (k := 62) (met_X5_append (z_l C) (z_g C) (y_sd hx) h46) (z_lt0 (z_ok_sd (hx.1 d)) (by decide)) (z_kb62 (z_ok_sd (hx.1 d)) _) rfl rfl cv_L_19 (z_room hR ⟨Nat.le_of_ble_eq_true rfl, Nat.le_of_ble_eq_true rfl⟩) ⟨rfl, rfl⟩ rfl rfl (Nat.le_of_ble_eq_true rfl) dL_fails_46 ?_
      refine z_iconst (hx.1 d) (n := (-1)) dL_fails_49 ?_
      refine z_icmp_ne (hx.1 d) (tgt := 184) dL_fails_50 (by decide) h (fun h => ⟨h, by decide⟩) (fun hc h => ?_) (fun hc h => ?_)
      · refine z_sub [3, 2, 1, 0] rfl ?_
        exact w_L_fails_b184 hx hn hR hq σ11 r2 r4 r6 h d hd
      · refine z_aload_n (hx.1 d) 3 dL_fails_53 rfl ?_
        refine z_iconst (hx.1 d) (n := 1) dL_fails_54 ?_
        refine z_iconst (hx.1 d) (n := 0) dL_fails_55 ?_
        obtain ⟨r14, σ13, h56, h⟩ := z_bind_some h
        refine z_calli (hx.1 d) (As := [.int (zi 1), .int (zi 0)]) (k := 62) (met_X5_babble (z_l C) (z_g C) (y_sd hx) h56) (z_lt0 (z_ok_sd (hx.1 d)) (by decide)) (z_kb62 (z_ok_sd (hx.1 d)) _) rfl rfl cv_L_23 (z_room hR ⟨Nat.le_of_ble_eq_true rfl, Nat.le_of_ble_eq_true rfl⟩) ⟨rfl, rfl⟩ rfl rfl (Nat.le_of_ble_eq_true rfl) dL_fails_56 ?_
        refine z_iconst (hx.1 d) (n := (-1)) dL_fails_59 ?_
        refine z_icmp_ne (hx.1 d) (tgt := 184) dL_fails_60 (by decide) h (fun h => ⟨h, by decide⟩) (fun hc h => ?_) (fun hc h => ?_)
        · refine z_sub [3, 2, 1, 0] rfl ?_
          exact w_L_fails_b184 hx hn hR hq σ13 r2 r4 r6 h d hd
        · refine z_aload_n (hx.1 d) 3 dL_fails_63 rfl ?_
          refine z_iconst (hx.1 d) (n := 4) dL_fails_64 ?_
          refine z_iconst (hx.1 d) (n := 0) dL_fails_65 ?_
          refine z_iconst (hx.1 d) (n := 1) dL_fails_66 ?_
          refine z_iconst (hx.1 d) (n := 0) dL_fails_67 ?_
          obtain ⟨r16, σ15, h68, h⟩ := z_bind_some h
          refine z_calli (hx.1 d) (As := [.int (zi 4), .int (zi 0), .int (zi 1), .int (zi 0)]) (k := 62) (met_X5_mark (z_l C) (z_g C) (y_sd hx) h68) (z_lt0 (z_ok_sd (hx.1 d)) (by decide)) (z_kb62 (z_ok_sd (hx.1 d)) _) rfl rfl cv_L_26 (z_room hR ⟨Nat.le_of_ble_eq_true rfl, Nat.le_of_ble_eq_true rfl⟩) ⟨rfl, rfl⟩ rfl rfl (Nat.le_of_ble_eq_true rfl) dL_fails_68 ?_
          refine z_iconst (hx.1 d) (n := (-1)) dL_fails_71 ?_
          refine z_icmp_ne (hx.1 d) (tgt := 184) dL_fails_72 (by decide) h (fun h => ⟨h, by decide⟩) (fun hc h => ?_) (fun hc h => ?_)
          · refine z_sub [3, 2, 1, 0] rfl ?_
            exact w_L_fails_b184 hx hn hR hq σ15 r2 r4 r6 h d hd
          · refine z_aload_n (hx.1 d) 3 dL_fails_75 rfl ?_
            refine z_iconst (hx.1 d) (n := 0) dL_fails_76 ?_
            refine z_iconst (hx.1 d) (n := (-1)) dL_fails_77 ?_
            refine z_iconst (hx.1 d) (n := 1) dL_fails_78 ?_
            refine z_iconst (hx.1 d) (n := 0) dL_fails_79 ?_
            obtain ⟨r18, σ17, h80, h⟩ := z_bind_some h
            refine z_calli (hx.1 d) (As := [.int (zi 0), .int (zi (-1)), .int (zi 1), .int (zi 0)]) (k := 62) (met_X5_mark (z_l C) (z_g C) (y_sd hx) h80) (z_lt0 (z_ok_sd (hx.1 d)) (by decide)) (z_kb62 (z_ok_sd (hx.1 d)) _) rfl rfl cv_L_26 (z_room hR ⟨Nat.le_of_ble_eq_true rfl, Nat.le_of_ble_eq_true rfl⟩) ⟨rfl, rfl⟩ rfl rfl (Nat.le_of_ble_eq_true rfl) dL_fails_80 ?_
            refine z_iconst (hx.1 d) (n := (-1)) dL_fails_83 ?_
            refine z_icmp_ne (hx.1 d) (tgt := 184) dL_fails_84 (by decide) h (fun h => ⟨h, by decide⟩) (fun hc h => ?_) (fun hc h => ?_)
            · refine z_sub [3, 2, 1, 0] rfl ?_
              exact w_L_fails_b184 hx hn hR hq σ17 r2 r4 r6 h d hd
            · refine z_aload_n (hx.1 d) 3 dL_fails_87 rfl ?_
              refine z_iconst (hx.1 d) (n := 0) dL_fails_88 ?_
              refine z_iconst (hx.1 d) (n := 0) dL_fails_89 ?_
              refine z_iload_n (hx.1 d) 1 dL_fails_90 rfl ?_
              refine z_iconst (hx.1 d) (n := 1) dL_fails_91 ?_
              refine z_iadd (hx.1 d) dL_fails_92 ?_
              refine z_iconst (hx.1 d) (n := 0) dL_fails_93 ?_
              obtain ⟨r20, σ19, h94, h⟩ := z_bind_some h
              refine z_calli (hx.1 d) (As := [.int (zi 0), .int (zi 0), .int (zi (r4 + 1)), .int (zi 0)]) (k := 62) (met_X5_mark (z_l C) (z_g C) (y_sd hx) h94) (z_lt0 (z_ok_sd (hx.1 d)) (by decide)) (z_kb62 (z_ok_sd (hx.1 d)) _) rfl rfl cv_L_26 (z_room hR ⟨Nat.le_of_ble_eq_true rfl, Nat.le_of_ble_eq_true rfl⟩) ⟨rfl, rfl⟩ rfl rfl (Nat.le_of_ble_eq_true rfl) dL_fails_94 ?_
              refine z_iconst (hx.1 d) (n := (-1)) dL_fails_97 ?_
              refine z_icmp_ne (hx.1 d) (tgt := 184) dL_fails_98 (by decide) h (fun h => ⟨h, by decide⟩) (fun hc h => ?_) (fun hc h => ?_)
              · refine z_sub [3, 2, 1, 0] rfl ?_
                exact w_L_fails_b184 hx hn hR hq σ19 r2 r4 r6 h d hd
              · refine z_aload_n (hx.1 d) 3 dL_fails_101 rfl ?_
                refine z_iconst (hx.1 d) (n := 0) dL_fails_102 ?_
                refine z_iconst (hx.1 d) (n := 0) dL_fails_103 ?_
                refine z_iconst (hx.1 d) (n := 0) dL_fails_104 ?_
                refine z_iconst (hx.1 d) (n := 0) dL_fails_105 ?_
                obtain ⟨r22, σ21, h106, h⟩ := z_bind_some h
                refine z_calli (hx.1 d) (As := [.int (zi 0), .int (zi 0), .int (zi 0), .int (zi 0)]) (k := 62) (met_X5_mark (z_l C) (z_g C) (y_sd hx) h106) (z_lt0 (z_ok_sd (hx.1 d)) (by decide)) (z_kb62 (z_ok_sd (hx.1 d)) _) rfl rfl cv_L_26 (z_room hR ⟨Nat.le_of_ble_eq_true rfl, Nat.le_of_ble_eq_true rfl⟩) ⟨rfl, rfl⟩ rfl rfl (Nat.le_of_ble_eq_true rfl) dL_fails_106 ?_
                refine z_iconst (hx.1 d) (n := (-1)) dL_fails_109 ?_
                refine z_icmp_ne (hx.1 d) (tgt := 184) dL_fails_110 (by decide) h (fun h => ⟨h, by decide⟩) (fun hc h => ?_) (fun hc h => ?_)
                · refine z_sub [3, 2, 1, 0] rfl ?_
                  exact w_L_fails_b184 hx hn hR hq σ21 r2 r4 r6 h d hd
                · refine z_aload_n (hx.1 d) 3 dL_fails_113 rfl ?_
                  refine z_iconst (hx.1 d) (n := 0) dL_fails_114 ?_
                  refine z_iconst (hx.1 d) (n := 0) dL_fails_115 ?_
                  refine z_iconst (hx.1 d) (n := 1) dL_fails_116 ?_
                  refine z_bipush (hx.1 d) (n := 101) dL_fails_117 rfl ?_
                  obtain ⟨r24, σ23, h119, h⟩ := z_bind_some h
                  refine z_calli (hx.1 d) (As := [.int (zi 0), .int (zi 0), .int (zi 1), .int (zi 101)]) (k := 62) (met_X5_mark (z_l C) (z_g C) (y_sd hx) h119) (z_lt0 (z_ok_sd (hx.1 d)) (by decide)) (z_kb62 (z_ok_sd (hx.1 d)) _) rfl rfl cv_L_26 (z_room hR ⟨Nat.le_of_ble_eq_true rfl, Nat.le_of_ble_eq_true rfl⟩) ⟨rfl, rfl⟩ rfl rfl (Nat.le_of_ble_eq_true rfl) dL_fails_119 ?_
                  refine z_iconst (hx.1 d) (n := (-1)) dL_fails_122 ?_
                  refine z_icmp_ne (hx.1 d) (tgt := 184) dL_fails_123 (by decide) h (fun h => ⟨h, by decide⟩) (fun hc h => ?_) (fun hc h => ?_)
                  · refine z_sub [3, 2, 1, 0] rfl ?_
                    exact w_L_fails_b184 hx hn hR hq σ23 r2 r4 r6 h d hd
                  · refine z_aload_n (hx.1 d) 3 dL_fails_126 rfl ?_
                    refine z_iload (hx.1 d) 0 dL_fails_127 rfl ?_
                    obtain ⟨r26, σ25, h129, h⟩ := z_bind_some h
                    refine z_calli (hx.1 d) (As := [.int (zi r6)]) (k := 62) (met_X5_unmark (z_l C) (z_g C) (y_sd hx) h129) (z_lt0 (z_ok_sd (hx.1 d)) (by decide)) (z_kb62 (z_ok_sd (hx.1 d)) _) rfl rfl cv_L_30 (z_room hR ⟨Nat.le_of_ble_eq_true rfl, Nat.le_of_ble_eq_true rfl⟩) ⟨rfl, rfl⟩ rfl rfl (Nat.le_of_ble_eq_true rfl) dL_fails_129 ?_
                    refine z_iconst (hx.1 d) (n := (-1)) dL_fails_132 ?_
                    refine z_icmp_ne (hx.1 d) (tgt := 184) dL_fails_133 (by decide) h (fun h => ⟨h, by decide⟩) (fun hc h => ?_) (fun hc h => ?_)
                    · refine z_sub [3, 2, 1, 0] rfl ?_
                      exact w_L_fails_b184 hx hn hR hq σ25 r2 r4 r6 h d hd
                    · refine z_aload_n (hx.1 d) 3 dL_fails_136 rfl ?_
                      refine z_iload (hx.1 d) 0 dL_fails_137 rfl ?_
                      refine z_iconst (hx.1 d) (n := 1) dL_fails_139 ?_
                      obtain ⟨r28, σ27, h140, h⟩ := z_bind_some h
                      refine z_calli (hx.1 d) (As := [.int (zi r6), .int (zi 1)]) (k := 62) (met_X5_hold (z_l C) (z_g C) (y_sd hx) h140) (z_lt0 (z_ok_sd (hx.1 d)) (by decide)) (z_kb62 (z_ok_sd (hx.1 d)) _) rfl rfl cv_L_33 (z_room hR ⟨Nat.le_of_ble_eq_true rfl, Nat.le_of_ble_eq_true rfl⟩) ⟨rfl, rfl⟩ rfl rfl (Nat.le_of_ble_eq_true rfl) dL_fails_140 ?_
                      refine z_iconst (hx.1 d) (n := (-1)) dL_fails_143 ?_
                      refine z_icmp_ne (hx.1 d) (tgt := 184) dL_fails_144 (by decide) h (fun h => ⟨h, by decide⟩) (fun hc h => ?_) (fun hc h => ?_)
                      · refine z_sub [3, 2, 1, 0] rfl ?_
                        exact w_L_fails_b184 hx hn hR hq σ27 r2 r4 r6 h d hd
                      · refine z_aload_n (hx.1 d) 3 dL_fails_147 rfl ?_
                        refine z_bipush (hx.1 d) (n := 7) dL_fails_148 rfl ?_
                        refine z_iconst (hx.1 d) (n := 1) dL_fails_150 ?_
                        obtain ⟨r30, σ29, h151, h⟩ := z_bind_some h
                        refine y_callset hx (As := [.int (zi 7), .int (zi 1)]) (met_X5_set (z_l C) (z_g C) (y_sd hx) h151) rfl cv_L_37 (z_room hR ⟨Nat.le_of_ble_eq_true rfl, Nat.le_of_ble_eq_true rfl⟩) ⟨rfl, rfl⟩ rfl rfl (Nat.le_of_ble_eq_true rfl) dL_fails_151 ?_
                        refine z_iconst (hx.1 d) (n := (-1)) dL_fails_154 ?_
                        refine z_icmp_ne (hx.1 d) (tgt := 184) dL_fails_155 (by decide) h (fun h => ⟨h, by decide⟩) (fun hc h => ?_) (fun hc h => ?_)
                        · refine z_sub [3, 2, 1, 0] rfl ?_
                          exact w_L_fails_b184 hx hn hR hq σ29 r2 r4 r6 h d hd
                        · refine z_aload_n (hx.1 d) 3 dL_fails_158 rfl ?_
                          refine z_iconst (hx.1 d) (n := 0) dL_fails_159 ?_
                          refine z_bipush (hx.1 d) (n := 101) dL_fails_160 rfl ?_
                          obtain ⟨r32, σ31, h162, h⟩ := z_bind_some h
                          refine y_callset hx (As := [.int (zi 0), .int (zi 101)]) (met_X5_set (z_l C) (z_g C) (y_sd hx) h162) rfl cv_L_37 (z_room hR ⟨Nat.le_of_ble_eq_true rfl, Nat.le_of_ble_eq_true rfl⟩) ⟨rfl, rfl⟩ rfl rfl (Nat.le_of_ble_eq_true rfl) dL_fails_162 ?_
                          refine z_iconst (hx.1 d) (n := (-1)) dL_fails_165 ?_
                          refine z_icmp_ne (hx.1 d) (tgt := 184) dL_fails_166 (by decide) h (fun h => ⟨h, by decide⟩) (fun hc h => ?_) (fun hc h => ?_)
                          · refine z_sub [3, 2, 1, 0] rfl ?_
                            exact w_L_fails_b184 hx hn hR hq σ31 r2 r4 r6 h d hd
                          · refine z_aload_n (hx.1 d) 3 dL_fails_169 rfl ?_
                            refine z_iconst (hx.1 d) (n := 1) dL_fails_170 ?_
                            refine z_bipush (hx.1 d) (n := 10) dL_fails_171 rfl ?_
                            obtain ⟨r34, σ33, h173, h⟩ := z_bind_some h
                            refine y_callset hx (As := [.int (zi 1), .int (zi 10)]) (met_X5_set (z_l C) (z_g C) (y_sd hx) h173) rfl cv_L_37 (z_room hR ⟨Nat.le_of_ble_eq_true rfl, Nat.le_of_ble_eq_true rfl⟩) ⟨rfl, rfl⟩ rfl rfl (Nat.le_of_ble_eq_true rfl) dL_fails_173 ?_
                            refine z_iconst (hx.1 d) (n := (-1)) dL_fails_176 ?_
                            refine z_icmp_ne (hx.1 d) (tgt := 184) dL_fails_177 (by decide) h (fun h => ⟨h, by decide⟩) (fun hc h => ?_) (fun hc h => ?_)
                            · refine z_sub [3, 2, 1, 0] rfl ?_
                              exact w_L_fails_b184 hx hn hR hq σ33 r2 r4 r6 h d hd
                            · refine z_iconst (hx.1 d) (n := 1) dL_fails_180 ?_
                              refine z_goto (hx.1 d) (tgt := 185) dL_fails_181 (by decide) ?_
                              refine z_sub [3, 2, 1, 0] rfl ?_
                              exact w_L_fails_b185 hx hn hR hq σ33 r2 r4 r6 1 h d hd

theorem met_L_fails (l : Launch) (g : zG) (E : yE) (hg : g.1 = 0) {σ : zS} {rr : Int × zS} (h : f_L_fails σ = some rr) : y_Met l yL_fails cL_fails 6 (some .boolean) rm_L_fails g E [.ref (z_ad (g) 62)] σ (z_QI g rr.1 rr.2) := by
  refine y_enter (own := RL) (lv0 := [(0, .ref (z_ad (g) 62))]) (by decide) rfl (Nat.le_of_ble_eq_true rfl) hg rfl (fun C hx hl hgC hR hn hq => ?_)
  subst hgC
  intro d hd
  refine z_sub [0] rfl ?_
  exact w_L_fails hx hn hR hq σ h d hd
