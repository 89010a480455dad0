/-! the law's walks, by program: cuts -/
abbrev rm_L_cuts : Room := { frames := 7, cells := 0, slots := 0, locals := 169 }
theorem w_L_cuts_b445 {C : zC} {E : yE} (hx : y_ok C cL_cuts RL E) (hn : z_nL C = 14) (hR : z_R C = rm_L_cuts) {rr : Int × zS} (hq : y_fin C (some .boolean) (z_QI (z_g C) rr.1 rr.2)) (σ : zS) (s0 : Int) (h : f_L_cuts_b445 σ s0 = some rr) : y_W C σ 445 [] [.int (zi s0)] := by
  intro d hd
  unfold f_L_cuts_b445 at h
  obtain ⟨hz, h⟩ := z_gd h
  cases h
  exact y_zret hx hd hz hq dL_cuts_445

theorem w_L_cuts_b444 {C : zC} {E : yE} (hx : y_ok C cL_cuts RL E) (hn : z_nL C = 14) (hR : z_R C = rm_L_cuts) {rr : Int × zS} (hq : y_fin C (some .boolean) (z_QI (z_g C) rr.1 rr.2)) (σ : zS) (h : f_L_cuts_b444 σ = some rr) : y_W C σ 444 [] [] := by
  intro d hd
  unfold f_L_cuts_b444 at h
  refine z_iconst (hx.1 d) (n := 0) dL_cuts_444 ?_
  refine z_sub [] rfl ?_
  exact w_L_cuts_b445 hx hn hR hq σ 0 h d hd

theorem w_L_cuts_b345 {C : zC} {E : yE} (hx : y_ok C cL_cuts RL E) (hn : z_nL C = 14) (hR : z_R C = rm_L_cuts) {rr : Int × zS} (hq : y_fin C (some .boolean) (z_QI (z_g C) rr.1 rr.2)) {K21 : zS → Int → Int → Int → Int → Int → Int → Int → Option (Int × zS)} (hK21 : ∀ (σ : zS) (x1 : Int) (x2 : Int) (x3 : Int) (x4 : Int) (x5 : Int) (x6 : Int) (x7 : Int) , K21 σ x1 x2 x3 x4 x5 x6 x7 = some rr → y_W C σ 21 [(0, .ref (z_ad (z_g C) 62)), (1, .int (zi x1)), (2, .int (zi x2)), (3, .int (zi x3)), (4, .int (zi x4)), (5, .int (zi x5)), (6, .int (zi x6)), (7, .int (zi x7))] []) (σ : zS) (x1 : Int) (x4 : Int) (x5 : Int) (x6 : Int) (x7 : Int) (x8 : Int) (x9 : Int) (x10 : Int) (h : f_L_cuts_b345 K21 σ x1 x4 x5 x6 x7 x8 x9 x10 = some rr) : y_W C σ 345 [(0, .ref (z_ad (z_g C) 62)), (1, .int (zi x1)), (4, .int (zi x4)), (5, .int (zi x5)), (6, .int (zi x6)), (7, .int (zi x7)), (8, .int (zi x8)), (9, .int (zi x9)), (10, .int (zi x10))] [] := by
  intro d hd
  unfold f_L_cuts_b345 at h
  refine z_iload (hx.1 d) 7 dL_cuts_345 rfl ?_
  refine z_istore_n (hx.1 d) hn (lv' := [(2, .int (zi x9)), (0, .ref (z_ad (z_g C) 62)), (1, .int (zi x1)), (4, .int (zi x4)), (5, .int (zi x5)), (6, .int (zi x6)), (7, .int (zi x7)), (8, .int (zi x8)), (9, .int (zi x9)), (10, .int (zi x10))]) dL_cuts_347 (by decide) rfl ?_
  refine z_iload (hx.1 d) 9 dL_cuts_348 rfl ?_
  refine z_istore_n (hx.1 d) hn (lv' := [(3, .int (zi x10)), (2, .int (zi x9)), (0, .ref (z_ad (z_g C) 62)), (1, .int (zi x1)), (4, .int (zi x4)), (5, .int (zi x5)), (6, .int (zi x6)), (7, .int (zi x7)), (8, .int (zi x8)), (9, .int (zi x9)), (10, .int (zi x10))]) dL_cuts_350 (by decide) rfl ?_
  refine z_iload (hx.1 d) 4 dL_cuts_351 rfl ?_
  refine z_iload (hx.1 d) 9 dL_cuts_353 rfl ?_
  refine z_iload (hx.1 d) 8 dL_cuts_355 rfl ?_
  refine z_isub (hx.1 d) dL_cuts_357 ?_
  refine z_iadd (hx.1 d) dL_cuts_358 ?_
  refine z_istore (hx.1 d) hn (lv' := [(4, .int (zi (x4 + (x9 - x8)))), (3, .int (zi x10)), (2, .int (zi x9)), (0, .ref (z_ad (z_g C) 62)), (1, .int (zi x1)), (5, .int (zi x5)), (6, .int (zi x6)), (7, .int (zi x7)), (8, .int (zi x8)), (9, .int (zi x9)), (10, .int (zi x10))]) dL_cuts_359 (by decide) rfl ?_
  refine z_iload (hx.1 d) 5 dL_cuts_361 rfl ?_
  refine z_aload_n (hx.1 d) 3 dL_cuts_363 rfl ?_
  refine z_iload (hx.1 d) 7 dL_cuts_364 rfl ?_
  refine z_iconst (hx.1 d) (n := 2) dL_cuts_366 ?_
  obtain ⟨r2, σ1, h367, h⟩ := z_bind_some h
  refine z_calli (hx.1 d) (As := [.int (zi x7), .int (zi 2)]) (k := 62) (met_X5_cut (z_l C) (z_g C) (y_sd hx) h367) (z_lt0 (z_ok_sd (hx.1 d)) (by decide)) (z_kb62 (z_ok_sd (hx.1 d)) _) rfl rfl cv_L_50 (z_room hR ⟨Nat.le_of_ble_eq_true rfl, Nat.le_of_ble_eq_true rfl⟩) ⟨rfl, rfl⟩ rfl rfl (Nat.le_of_ble_eq_true rfl) dL_cuts_367 ?_
  refine z_iadd (hx.1 d) dL_cuts_370 ?_
  refine z_istore (hx.1 d) hn (lv' := [(5, .int (zi (x5 + r2))), (4, .int (zi (x4 + (x9 - x8)))), (3, .int (zi x10)), (2, .int (zi x9)), (0, .ref (z_ad (z_g C) 62)), (1, .int (zi x1)), (6, .int (zi x6)), (7, .int (zi x7)), (8, .int (zi x8)), (9, .int (zi x9)), (10, .int (zi x10))]) dL_cuts_371 (by decide) rfl ?_
  refine z_iload (hx.1 d) 6 dL_cuts_373 rfl ?_
  refine z_aload_n (hx.1 d) 4 dL_cuts_375 rfl ?_
  refine z_iload (hx.1 d) 7 dL_cuts_376 rfl ?_
  refine z_iconst (hx.1 d) (n := 3) dL_cuts_378 ?_
  obtain ⟨r4, σ3, h379, h⟩ := z_bind_some h
  refine z_calli (hx.1 d) (As := [.int (zi x7), .int (zi 3)]) (k := 62) (met_X5_cut (z_l C) (z_g C) (y_sd hx) h379) (z_lt0 (z_ok_sd (hx.1 d)) (by decide)) (z_kb62 (z_ok_sd (hx.1 d)) _) rfl rfl cv_L_50 (z_room hR ⟨Nat.le_of_ble_eq_true rfl, Nat.le_of_ble_eq_true rfl⟩) ⟨rfl, rfl⟩ rfl rfl (Nat.le_of_ble_eq_true rfl) dL_cuts_379 ?_
  refine z_iadd (hx.1 d) dL_cuts_382 ?_
  refine z_istore (hx.1 d) hn (lv' := [(6, .int (zi (x6 + r4))), (5, .int (zi (x5 + r2))), (4, .int (zi (x4 + (x9 - x8)))), (3, .int (zi x10)), (2, .int (zi x9)), (0, .ref (z_ad (z_g C) 62)), (1, .int (zi x1)), (7, .int (zi x7)), (8, .int (zi x8)), (9, .int (zi x9)), (10, .int (zi x10))]) dL_cuts_383 (by decide) rfl ?_
  refine z_iinc (hx.1 d) hn 7 (lv' := [(7, .int (zi (x7 + 1))), (6, .int (zi (x6 + r4))), (5, .int (zi (x5 + r2))), (4, .int (zi (x4 + (x9 - x8)))), (3, .int (zi x10)), (2, .int (zi x9)), (0, .ref (z_ad (z_g C) 62)), (1, .int (zi x1)), (8, .int (zi x8)), (9, .int (zi x9)), (10, .int (zi x10))]) dL_cuts_385 rfl (by decide) rfl ?_
  refine z_goto (hx.1 d) (tgt := 21) dL_cuts_388 (by decide) ?_
  refine z_sub [6, 7, 5, 4, 3, 2, 1, 0] rfl ?_
  exact hK21 σ3 x1 x9 x10 (x4 + (x9 - x8)) (x5 + r2) (x6 + r4) (x7 + 1) h d hd

theorem w_L_cuts_b343 {C : zC} {E : yE} (hx : y_ok C cL_cuts RL E) (hn : z_nL C = 14) (hR : z_R C = rm_L_cuts) {rr : Int × zS} (hq : y_fin C (some .boolean) (z_QI (z_g C) rr.1 rr.2)) (σ : zS) (h : f_L_cuts_b343 σ = some rr) : y_W C σ 343 [] [] := by
  intro d hd
  unfold f_L_cuts_b343 at h
  refine z_iconst (hx.1 d) (n := 0) dL_cuts_343 ?_
  cases h
  exact y_zret hx hd (by decide) hq dL_cuts_344

theorem w_L_cuts_b257 {C : zC} {E : yE} (hx : y_ok C cL_cuts RL E) (hn : z_nL C = 14) (hR : z_R C = rm_L_cuts) {rr : Int × zS} (hq : y_fin C (some .boolean) (z_QI (z_g C) rr.1 rr.2)) {K21 : zS → Int → Int → Int → Int → Int → Int → Int → Option (Int × zS)} (hK21 : ∀ (σ : zS) (x1 : Int) (x2 : Int) (x3 : Int) (x4 : Int) (x5 : Int) (x6 : Int) (x7 : Int) , K21 σ x1 x2 x3 x4 x5 x6 x7 = some rr → y_W C σ 21 [(0, .ref (z_ad (z_g C) 62)), (1, .int (zi x1)), (2, .int (zi x2)), (3, .int (zi x3)), (4, .int (zi x4)), (5, .int (zi x5)), (6, .int (zi x6)), (7, .int (zi x7))] []) (σ : zS) (x1 : Int) (x4 : Int) (x5 : Int) (x6 : Int) (x7 : Int) (x8 : Int) (x9 : Int) (x10 : Int) (x11 : Int) (x12 : Int) (s0 : Int) (h : f_L_cuts_b257 K21 σ x1 x4 x5 x6 x7 x8 x9 x10 x11 x12 s0 = some rr) : y_W C σ 257 [(0, .ref (z_ad (z_g C) 62)), (1, .int (zi x1)), (4, .int (zi x4)), (5, .int (zi x5)), (6, .int (zi x6)), (7, .int (zi x7)), (8, .int (zi x8)), (9, .int (zi x9)), (10, .int (zi x10)), (11, .int (zi x11)), (12, .int (zi x12))] [.int (zi s0)] := by
  intro d hd
  unfold f_L_cuts_b257 at h
  refine z_istore (hx.1 d) hn (lv' := [(13, .int (zi s0)), (0, .ref (z_ad (z_g C) 62)), (1, .int (zi x1)), (4, .int (zi x4)), (5, .int (zi x5)), (6, .int (zi x6)), (7, .int (zi x7)), (8, .int (zi x8)), (9, .int (zi x9)), (10, .int (zi x10)), (11, .int (zi x11)), (12, .int (zi x12))]) dL_cuts_257 (by decide) rfl ?_
  refine z_iload (hx.1 d) 8 dL_cuts_259 rfl ?_
  refine z_iload (hx.1 d) 11 dL_cuts_261 rfl ?_
  refine z_icmp_gt (hx.1 d) (tgt := 343) dL_cuts_263 (by decide) h (fun h => h) (fun hc h => ?_) (fun hc h => ?_)
  · refine z_sub [] rfl ?_
    exact w_L_cuts_b343 hx hn hR hq σ h d hd
  · refine z_iload (hx.1 d) 7 dL_cuts_266 rfl ?_
    refine z_iload (hx.1 d) 0 dL_cuts_268 rfl ?_
    refine z_icmp_lt (hx.1 d) (tgt := 343) dL_cuts_270 (by decide) h (fun h => h) (fun hc h => ?_) (fun hc h => ?_)
    · refine z_sub [] rfl ?_
      exact w_L_cuts_b343 hx hn hR hq σ h d hd
    · refine z_aload_n (hx.1 d) 1 dL_cuts_273 rfl ?_
      refine z_iload (hx.1 d) 6 dL_cuts_274 rfl ?_
      refine z_iconst (hx.1 d) (n := 2) dL_cuts_276 ?_
      obtain ⟨r2, σ1, h277, h⟩ := z_bind_some h
      refine z_calli (hx.1 d) (As := [.int (zi x7), .int (zi 2)]) (k := 62) (met_X5_cut (z_l C) (z_g C) (y_sd hx) h277) (z_lt0 (z_ok_sd (hx.1 d)) (by decide)) (z_kb62 (z_ok_sd (hx.1 d)) _) rfl rfl cv_L_50 (z_room hR ⟨Nat.le_of_ble_eq_true rfl, Nat.le_of_ble_eq_true rfl⟩) ⟨rfl, rfl⟩ rfl rfl (Nat.le_of_ble_eq_true rfl) dL_cuts_277 ?_
      refine z_aload_n (hx.1 d) 1 dL_cuts_280 rfl ?_
      refine z_iconst (hx.1 d) (n := 3) dL_cuts_281 ?_
      obtain ⟨r4, σ3, h282, h⟩ := z_bind_some h
      refine z_calli (hx.1 d) (As := [.int (zi 3)]) (k := 62) (met_X5_setting (z_l C) (z_g C) (y_sd hx) h282) (z_lt0 (z_ok_sd (hx.1 d)) (by decide)) (z_kb62 (z_ok_sd (hx.1 d)) _) rfl rfl cv_L_15 (z_room hR ⟨Nat.le_of_ble_eq_true rfl, Nat.le_of_ble_eq_true rfl⟩) ⟨rfl, rfl⟩ rfl rfl (Nat.le_of_ble_eq_true rfl) dL_cuts_282 ?_
      refine z_icmp_gt (hx.1 d) (tgt := 343) dL_cuts_285 (by decide) h (fun h => h) (fun hc h => ?_) (fun hc h => ?_)
      · refine z_sub [] rfl ?_
        exact w_L_cuts_b343 hx hn hR hq σ3 h d hd
      · refine z_aload_n (hx.1 d) 1 dL_cuts_288 rfl ?_
        refine z_iload (hx.1 d) 6 dL_cuts_289 rfl ?_
        refine z_iconst (hx.1 d) (n := 2) dL_cuts_291 ?_
        obtain ⟨r6, σ5, h292, h⟩ := z_bind_some h
        refine z_calli (hx.1 d) (As := [.int (zi x7), .int (zi 2)]) (k := 62) (met_X5_cut (z_l C) (z_g C) (y_sd hx) h292) (z_lt0 (z_ok_sd (hx.1 d)) (by decide)) (z_kb62 (z_ok_sd (hx.1 d)) _) rfl rfl cv_L_50 (z_room hR ⟨Nat.le_of_ble_eq_true rfl, Nat.le_of_ble_eq_true rfl⟩) ⟨rfl, rfl⟩ rfl rfl (Nat.le_of_ble_eq_true rfl) dL_cuts_292 ?_
        refine z_iload (hx.1 d) 8 dL_cuts_295 rfl ?_
        refine z_iload (hx.1 d) 7 dL_cuts_297 rfl ?_
        refine z_isub (hx.1 d) dL_cuts_299 ?_
        refine z_icmp_gt (hx.1 d) (tgt := 343) dL_cuts_300 (by decide) h (fun h => h) (fun hc h => ?_) (fun hc h => ?_)
        · refine z_sub [] rfl ?_
          exact w_L_cuts_b343 hx hn hR hq σ5 h d hd
        · refine z_iload (hx.1 d) 10 dL_cuts_303 rfl ?_
          refine z_if_ne (hx.1 d) (tgt := 345) dL_cuts_305 (by decide) h (fun h => h) (fun hc h => ?_) (fun hc h => ?_)
          · refine z_sub [1, 2, 3, 4, 5, 6, 7, 8, 9] rfl ?_
            exact w_L_cuts_b345 hx hn hR hq hK21 σ5 x1 x4 x5 x6 x7 x8 x9 x10 h d hd
          · refine z_aload_n (hx.1 d) 1 dL_cuts_308 rfl ?_
            refine z_iload (hx.1 d) 6 dL_cuts_309 rfl ?_
            refine z_iconst (hx.1 d) (n := 3) dL_cuts_311 ?_
            obtain ⟨r8, σ7, h312, h⟩ := z_bind_some h
            refine z_calli (hx.1 d) (As := [.int (zi x7), .int (zi 3)]) (k := 62) (met_X5_cut (z_l C) (z_g C) (y_sd hx) h312) (z_lt0 (z_ok_sd (hx.1 d)) (by decide)) (z_kb62 (z_ok_sd (hx.1 d)) _) rfl rfl cv_L_50 (z_room hR ⟨Nat.le_of_ble_eq_true rfl, Nat.le_of_ble_eq_true rfl⟩) ⟨rfl, rfl⟩ rfl rfl (Nat.le_of_ble_eq_true rfl) dL_cuts_312 ?_
            refine z_if_ne (hx.1 d) (tgt := 345) dL_cuts_315 (by decide) h (fun h => h) (fun hc h => ?_) (fun hc h => ?_)
            · refine z_sub [1, 2, 3, 4, 5, 6, 7, 8, 9] rfl ?_
              exact w_L_cuts_b345 hx hn hR hq hK21 σ7 x1 x4 x5 x6 x7 x8 x9 x10 h d hd
            · refine z_aload_n (hx.1 d) 1 dL_cuts_318 rfl ?_
              refine z_iload (hx.1 d) 7 dL_cuts_319 rfl ?_
              obtain ⟨r10, σ9, h321, h⟩ := z_bind_some h
              refine z_calli (hx.1 d) (As := [.int (zi x8)]) (k := 62) (met_X5_level (z_l C) (z_g C) (y_sd hx) h321) (z_lt0 (z_ok_sd (hx.1 d)) (by decide)) (z_kb62 (z_ok_sd (hx.1 d)) _) rfl rfl cv_L_43 (z_room hR ⟨Nat.le_of_ble_eq_true rfl, Nat.le_of_ble_eq_true rfl⟩) ⟨rfl, rfl⟩ rfl rfl (Nat.le_of_ble_eq_true rfl) dL_cuts_321 ?_
              refine z_aload_n (hx.1 d) 1 dL_cuts_324 rfl ?_
              refine z_iconst (hx.1 d) (n := 1) dL_cuts_325 ?_
              obtain ⟨r12, σ11, h326, h⟩ := z_bind_some h
              refine z_calli (hx.1 d) (As := [.int (zi 1)]) (k := 62) (met_X5_setting (z_l C) (z_g C) (y_sd hx) h326) (z_lt0 (z_ok_sd (hx.1 d)) (by decide)) (z_kb62 (z_ok_sd (hx.1 d)) _) rfl rfl cv_L_15 (z_room hR ⟨Nat.le_of_ble_eq_true rfl, Nat.le_of_ble_eq_true rfl⟩) ⟨rfl, rfl⟩ rfl rfl (Nat.le_of_ble_eq_true rfl) dL_cuts_326 ?_
              refine z_icmp_le (hx.1 d) (tgt := 345) dL_cuts_329 (by decide) h (fun h => h) (fun hc h => ?_) (fun hc h => ?_)
              · refine z_sub [1, 2, 3, 4, 5, 6, 7, 8, 9] rfl ?_
                exact w_L_cuts_b345 hx hn hR hq hK21 σ11 x1 x4 x5 x6 x7 x8 x9 x10 h d hd
              · refine z_iload (hx.1 d) 7 dL_cuts_332 rfl ?_
                refine z_aload_n (hx.1 d) 1 dL_cuts_334 rfl ?_
                refine z_bipush (hx.1 d) (n := 7) dL_cuts_335 rfl ?_
                obtain ⟨r14, σ13, h337, h⟩ := z_bind_some h
                refine z_calli (hx.1 d) (As := [.int (zi 7)]) (k := 62) (met_X5_setting (z_l C) (z_g C) (y_sd hx) h337) (z_lt0 (z_ok_sd (hx.1 d)) (by decide)) (z_kb62 (z_ok_sd (hx.1 d)) _) rfl rfl cv_L_15 (z_room hR ⟨Nat.le_of_ble_eq_true rfl, Nat.le_of_ble_eq_true rfl⟩) ⟨rfl, rfl⟩ rfl rfl (Nat.le_of_ble_eq_true rfl) dL_cuts_337 ?_
                refine z_icmp_ge (hx.1 d) (tgt := 345) dL_cuts_340 (by decide) h (fun h => h) (fun hc h => ?_) (fun hc h => ?_)
                · refine z_sub [1, 2, 3, 4, 5, 6, 7, 8, 9] rfl ?_
                  exact w_L_cuts_b345 hx hn hR hq hK21 σ13 x1 x4 x5 x6 x7 x8 x9 x10 h d hd
                · refine z_sub [] rfl ?_
                  exact w_L_cuts_b343 hx hn hR hq σ13 h d hd

theorem w_L_cuts_b237 {C : zC} {E : yE} (hx : y_ok C cL_cuts RL E) (hn : z_nL C = 14) (hR : z_R C = rm_L_cuts) {rr : Int × zS} (hq : y_fin C (some .boolean) (z_QI (z_g C) rr.1 rr.2)) {K21 : zS → Int → Int → Int → Int → Int → Int → Int → Option (Int × zS)} (hK21 : ∀ (σ : zS) (x1 : Int) (x2 : Int) (x3 : Int) (x4 : Int) (x5 : Int) (x6 : Int) (x7 : Int) , K21 σ x1 x2 x3 x4 x5 x6 x7 = some rr → y_W C σ 21 [(0, .ref (z_ad (z_g C) 62)), (1, .int (zi x1)), (2, .int (zi x2)), (3, .int (zi x3)), (4, .int (zi x4)), (5, .int (zi x5)), (6, .int (zi x6)), (7, .int (zi x7))] []) (σ : zS) (x1 : Int) (x4 : Int) (x5 : Int) (x6 : Int) (x7 : Int) (x8 : Int) (x9 : Int) (x10 : Int) (x11 : Int) (s0 : Int) (h : f_L_cuts_b237 K21 σ x1 x4 x5 x6 x7 x8 x9 x10 x11 s0 = some rr) : y_W C σ 237 [(0, .ref (z_ad (z_g C) 62)), (1, .int (zi x1)), (4, .int (zi x4)), (5, .int (zi x5)), (6, .int (zi x6)), (7, .int (zi x7)), (8, .int (zi x8)), (9, .int (zi x9)), (10, .int (zi x10)), (11, .int (zi x11))] [.int (zi s0)] := by
  intro d hd
  unfold f_L_cuts_b237 at h
  refine z_istore (hx.1 d) hn (lv' := [(12, .int (zi s0)), (0, .ref (z_ad (z_g C) 62)), (1, .int (zi x1)), (4, .int (zi x4)), (5, .int (zi x5)), (6, .int (zi x6)), (7, .int (zi x7)), (8, .int (zi x8)), (9, .int (zi x9)), (10, .int (zi x10)), (11, .int (zi x11))]) dL_cuts_237 (by decide) rfl ?_
  refine z_iload (hx.1 d) 9 dL_cuts_239 rfl ?_
  refine z_if_le (hx.1 d) (tgt := 256) dL_cuts_241 (by decide) h (fun h => h) (fun hc h => ?_) (fun hc h => ?_)
  · refine z_iconst (hx.1 d) (n := 0) dL_cuts_256 ?_
    refine z_sub [1, 2, 3, 4, 5, 6, 7, 8, 9, 10, 0] rfl ?_
    exact w_L_cuts_b257 hx hn hR hq hK21 σ x1 x4 x5 x6 x7 x8 x9 x10 x11 s0 0 h d hd
  · refine z_aload_n (hx.1 d) 1 dL_cuts_244 rfl ?_
    refine z_iload (hx.1 d) 9 dL_cuts_245 rfl ?_
    refine z_iconst (hx.1 d) (n := 1) dL_cuts_247 ?_
    refine z_isub (hx.1 d) dL_cuts_248 ?_
    refine z_iconst (hx.1 d) (n := 2) dL_cuts_249 ?_
    obtain ⟨r2, σ1, h250, h⟩ := z_bind_some h
    refine z_calli (hx.1 d) (As := [.int (zi (x10 - 1)), .int (zi 2)]) (k := 62) (met_X5_about (z_l C) (z_g C) (y_sd hx) h250) (z_lt0 (z_ok_sd (hx.1 d)) (by decide)) (z_kb62 (z_ok_sd (hx.1 d)) _) rfl rfl cv_L_40 (z_room hR ⟨Nat.le_of_ble_eq_true rfl, Nat.le_of_ble_eq_true rfl⟩) ⟨rfl, rfl⟩ rfl rfl (Nat.le_of_ble_eq_true rfl) dL_cuts_250 ?_
    refine z_goto (hx.1 d) (tgt := 257) dL_cuts_253 (by decide) ?_
    refine z_sub [1, 2, 3, 4, 5, 6, 7, 8, 9, 10, 0] rfl ?_
    exact w_L_cuts_b257 hx hn hR hq hK21 σ1 x1 x4 x5 x6 x7 x8 x9 x10 x11 s0 r2 h d hd

theorem w_L_cuts_b206 {C : zC} {E : yE} (hx : y_ok C cL_cuts RL E) (hn : z_nL C = 14) (hR : z_R C = rm_L_cuts) {rr : Int × zS} (hq : y_fin C (some .boolean) (z_QI (z_g C) rr.1 rr.2)) {K21 : zS → Int → Int → Int → Int → Int → Int → Int → Option (Int × zS)} (hK21 : ∀ (σ : zS) (x1 : Int) (x2 : Int) (x3 : Int) (x4 : Int) (x5 : Int) (x6 : Int) (x7 : Int) , K21 σ x1 x2 x3 x4 x5 x6 x7 = some rr → y_W C σ 21 [(0, .ref (z_ad (z_g C) 62)), (1, .int (zi x1)), (2, .int (zi x2)), (3, .int (zi x3)), (4, .int (zi x4)), (5, .int (zi x5)), (6, .int (zi x6)), (7, .int (zi x7))] []) (σ : zS) (x1 : Int) (x4 : Int) (x5 : Int) (x6 : Int) (x7 : Int) (x8 : Int) (x9 : Int) (x10 : Int) (x11 : Int) (h : f_L_cuts_b206 K21 σ x1 x4 x5 x6 x7 x8 x9 x10 x11 = some rr) : y_W C σ 206 [(0, .ref (z_ad (z_g C) 62)), (1, .int (zi x1)), (4, .int (zi x4)), (5, .int (zi x5)), (6, .int (zi x6)), (7, .int (zi x7)), (8, .int (zi x8)), (9, .int (zi x9)), (10, .int (zi x10)), (11, .int (zi x11))] [] := by
  intro d hd
  unfold f_L_cuts_b206 at h
  refine z_iload (hx.1 d) 8 dL_cuts_206 rfl ?_
  refine z_iconst (hx.1 d) (n := 1) dL_cuts_208 ?_
  refine z_iadd (hx.1 d) dL_cuts_209 ?_
  refine z_aload_n (hx.1 d) 0 dL_cuts_210 rfl ?_
  refine z_bipush (hx.1 d) (n := 8) dL_cuts_211 rfl ?_
  obtain ⟨r2, σ1, h213, h⟩ := z_bind_some h
  refine z_calli (hx.1 d) (As := [.int (zi 8)]) (k := 62) (met_X5_setting (z_l C) (z_g C) (y_sd hx) h213) (z_lt0 (z_ok_sd (hx.1 d)) (by decide)) (z_kb62 (z_ok_sd (hx.1 d)) _) rfl rfl cv_L_15 (z_room hR ⟨Nat.le_of_ble_eq_true rfl, Nat.le_of_ble_eq_true rfl⟩) ⟨rfl, rfl⟩ rfl rfl (Nat.le_of_ble_eq_true rfl) dL_cuts_213 ?_
  refine z_icmp_ge (hx.1 d) (tgt := 231) dL_cuts_216 (by decide) h (fun h => h) (fun hc h => ?_) (fun hc h => ?_)
  · refine z_aload_n (hx.1 d) 0 dL_cuts_231 rfl ?_
    refine z_bipush (hx.1 d) (n := 7) dL_cuts_232 rfl ?_
    obtain ⟨r4, σ3, h234, h⟩ := z_bind_some h
    refine z_calli (hx.1 d) (As := [.int (zi 7)]) (k := 62) (met_X5_setting (z_l C) (z_g C) (y_sd hx) h234) (z_lt0 (z_ok_sd (hx.1 d)) (by decide)) (z_kb62 (z_ok_sd (hx.1 d)) _) rfl rfl cv_L_15 (z_room hR ⟨Nat.le_of_ble_eq_true rfl, Nat.le_of_ble_eq_true rfl⟩) ⟨rfl, rfl⟩ rfl rfl (Nat.le_of_ble_eq_true rfl) dL_cuts_234 ?_
    refine z_sub [0, 1, 2, 3, 4, 5, 6, 7, 8, 9] rfl ?_
    exact w_L_cuts_b237 hx hn hR hq hK21 σ3 x1 x4 x5 x6 x7 x8 x9 x10 x11 r4 h d hd
  · refine z_aload_n (hx.1 d) 0 dL_cuts_219 rfl ?_
    refine z_iload (hx.1 d) 8 dL_cuts_220 rfl ?_
    refine z_iconst (hx.1 d) (n := 1) dL_cuts_222 ?_
    refine z_iadd (hx.1 d) dL_cuts_223 ?_
    refine z_iconst (hx.1 d) (n := 1) dL_cuts_224 ?_
    obtain ⟨r6, σ5, h225, h⟩ := z_bind_some h
    refine z_calli (hx.1 d) (As := [.int (zi (x10 + 1)), .int (zi 1)]) (k := 62) (met_X5_about (z_l C) (z_g C) (y_sd hx) h225) (z_lt0 (z_ok_sd (hx.1 d)) (by decide)) (z_kb62 (z_ok_sd (hx.1 d)) _) rfl rfl cv_L_40 (z_room hR ⟨Nat.le_of_ble_eq_true rfl, Nat.le_of_ble_eq_true rfl⟩) ⟨rfl, rfl⟩ rfl rfl (Nat.le_of_ble_eq_true rfl) dL_cuts_225 ?_
    refine z_goto (hx.1 d) (tgt := 237) dL_cuts_228 (by decide) ?_
    refine z_sub [0, 1, 2, 3, 4, 5, 6, 7, 8, 9] rfl ?_
    exact w_L_cuts_b237 hx hn hR hq hK21 σ5 x1 x4 x5 x6 x7 x8 x9 x10 x11 r6 h d hd

theorem w_L_cuts_b204 {C : zC} {E : yE} (hx : y_ok C cL_cuts RL E) (hn : z_nL C = 14) (hR : z_R C = rm_L_cuts) {rr : Int × zS} (hq : y_fin C (some .boolean) (z_QI (z_g C) rr.1 rr.2)) (σ : zS) (h : f_L_cuts_b204 σ = some rr) : y_W C σ 204 [] [] := by
  intro d hd
  unfold f_L_cuts_b204 at h
  refine z_iconst (hx.1 d) (n := 0) dL_cuts_204 ?_
  cases h
  exact y_zret hx hd (by decide) hq dL_cuts_205

theorem w_L_cuts_b154 {C : zC} {E : yE} (hx : y_ok C cL_cuts RL E) (hn : z_nL C = 14) (hR : z_R C = rm_L_cuts) {rr : Int × zS} (hq : y_fin C (some .boolean) (z_QI (z_g C) rr.1 rr.2)) {K21 : zS → Int → Int → Int → Int → Int → Int → Int → Option (Int × zS)} (hK21 : ∀ (σ : zS) (x1 : Int) (x2 : Int) (x3 : Int) (x4 : Int) (x5 : Int) (x6 : Int) (x7 : Int) , K21 σ x1 x2 x3 x4 x5 x6 x7 = some rr → y_W C σ 21 [(0, .ref (z_ad (z_g C) 62)), (1, .int (zi x1)), (2, .int (zi x2)), (3, .int (zi x3)), (4, .int (zi x4)), (5, .int (zi x5)), (6, .int (zi x6)), (7, .int (zi x7))] []) (σ : zS) (x1 : Int) (x4 : Int) (x5 : Int) (x6 : Int) (x7 : Int) (x8 : Int) (x9 : Int) (x10 : Int) (x11 : Int) (h : f_L_cuts_b154 K21 σ x1 x4 x5 x6 x7 x8 x9 x10 x11 = some rr) : y_W C σ 154 [(0, .ref (z_ad (z_g C) 62)), (1, .int (zi x1)), (4, .int (zi x4)), (5, .int (zi x5)), (6, .int (zi x6)), (7, .int (zi x7)), (8, .int (zi x8)), (9, .int (zi x9)), (10, .int (zi x10)), (11, .int (zi x11))] [] := by
  intro d hd
  unfold f_L_cuts_b154 at h
  refine z_iload (hx.1 d) 9 dL_cuts_154 rfl ?_
  refine z_iconst (hx.1 d) (n := 1) dL_cuts_156 ?_
  refine z_icmp_ne (hx.1 d) (tgt := 206) dL_cuts_157 (by decide) h (fun h => ⟨h, by decide⟩) (fun hc h => ?_) (fun hc h => ?_)
  · refine z_sub [0, 1, 2, 3, 4, 5, 6, 7, 8, 9] rfl ?_
    exact w_L_cuts_b206 hx hn hR hq hK21 σ x1 x4 x5 x6 x7 x8 x9 x10 x11 h d hd
  · refine z_aload_n (hx.1 d) 0 dL_cuts_160 rfl ?_
    refine z_iload (hx.1 d) 5 dL_cuts_161 rfl ?_
    refine z_iconst (hx.1 d) (n := 2) dL_cuts_163 ?_
    obtain ⟨r2, σ1, h164, h⟩ := z_bind_some h
    refine z_calli (hx.1 d) (As := [.int (zi x7), .int (zi 2)]) (k := 62) (met_X5_cut (z_l C) (z_g C) (y_sd hx) h164) (z_lt0 (z_ok_sd (hx.1 d)) (by decide)) (z_kb62 (z_ok_sd (hx.1 d)) _) rfl rfl cv_L_50 (z_room hR ⟨Nat.le_of_ble_eq_true rfl, Nat.le_of_ble_eq_true rfl⟩) ⟨rfl, rfl⟩ rfl rfl (Nat.le_of_ble_eq_true rfl) dL_cuts_164 ?_
    refine z_if_ne (hx.1 d) (tgt := 204) dL_cuts_167 (by decide) h (fun h => h) (fun hc h => ?_) (fun hc h => ?_)
    · refine z_sub [] rfl ?_
      exact w_L_cuts_b204 hx hn hR hq σ1 h d hd
    · refine z_aload_n (hx.1 d) 0 dL_cuts_170 rfl ?_
      refine z_iload (hx.1 d) 5 dL_cuts_171 rfl ?_
      refine z_iconst (hx.1 d) (n := 3) dL_cuts_173 ?_
      obtain ⟨r4, σ3, h174, h⟩ := z_bind_some h
      refine z_calli (hx.1 d) (As := [.int (zi x7), .int (zi 3)]) (k := 62) (met_X5_cut (z_l C) (z_g C) (y_sd hx) h174) (z_lt0 (z_ok_sd (hx.1 d)) (by decide)) (z_kb62 (z_ok_sd (hx.1 d)) _) rfl rfl cv_L_50 (z_room hR ⟨Nat.le_of_ble_eq_true rfl, Nat.le_of_ble_eq_true rfl⟩) ⟨rfl, rfl⟩ rfl rfl (Nat.le_of_ble_eq_true rfl) dL_cuts_174 ?_
      refine z_if_ne (hx.1 d) (tgt := 204) dL_cuts_177 (by decide) h (fun h => h) (fun hc h => ?_) (fun hc h => ?_)
      · refine z_sub [] rfl ?_
        exact w_L_cuts_b204 hx hn hR hq σ3 h d hd
      · refine z_iload (hx.1 d) 6 dL_cuts_180 rfl ?_
        refine z_aload_n (hx.1 d) 0 dL_cuts_182 rfl ?_
        refine z_iload (hx.1 d) 8 dL_cuts_183 rfl ?_
        refine z_iconst (hx.1 d) (n := 1) dL_cuts_185 ?_
        obtain ⟨r6, σ5, h186, h⟩ := z_bind_some h
        refine z_calli (hx.1 d) (As := [.int (zi x10), .int (zi 1)]) (k := 62) (met_X5_about (z_l C) (z_g C) (y_sd hx) h186) (z_lt0 (z_ok_sd (hx.1 d)) (by decide)) (z_kb62 (z_ok_sd (hx.1 d)) _) rfl rfl cv_L_40 (z_room hR ⟨Nat.le_of_ble_eq_true rfl, Nat.le_of_ble_eq_true rfl⟩) ⟨rfl, rfl⟩ rfl rfl (Nat.le_of_ble_eq_true rfl) dL_cuts_186 ?_
        refine z_icmp_lt (hx.1 d) (tgt := 204) dL_cuts_189 (by decide) h (fun h => h) (fun hc h => ?_) (fun hc h => ?_)
        · refine z_sub [] rfl ?_
          exact w_L_cuts_b204 hx hn hR hq σ5 h d hd
        · refine z_iload (hx.1 d) 7 dL_cuts_192 rfl ?_
          refine z_aload_n (hx.1 d) 0 dL_cuts_194 rfl ?_
          refine z_iload (hx.1 d) 8 dL_cuts_195 rfl ?_
          refine z_iconst (hx.1 d) (n := 2) dL_cuts_197 ?_
          obtain ⟨r8, σ7, h198, h⟩ := z_bind_some h
          refine z_calli (hx.1 d) (As := [.int (zi x10), .int (zi 2)]) (k := 62) (met_X5_about (z_l C) (z_g C) (y_sd hx) h198) (z_lt0 (z_ok_sd (hx.1 d)) (by decide)) (z_kb62 (z_ok_sd (hx.1 d)) _) rfl rfl cv_L_40 (z_room hR ⟨Nat.le_of_ble_eq_true rfl, Nat.le_of_ble_eq_true rfl⟩) ⟨rfl, rfl⟩ rfl rfl (Nat.le_of_ble_eq_true rfl) dL_cuts_198 ?_
          refine z_icmp_le (hx.1 d) (tgt := 206) dL_cuts_201 (by decide) h (fun h => h) (fun hc h => ?_) (fun hc h => ?_)
          · refine z_sub [0, 1, 2, 3, 4, 5, 6, 7, 8, 9] rfl ?_
            exact w_L_cuts_b206 hx hn hR hq hK21 σ7 x1 x4 x5 x6 x7 x8 x9 x10 x11 h d hd
          · refine z_sub [] rfl ?_
            exact w_L_cuts_b204 hx hn hR hq σ7 h d hd

theorem w_L_cuts_b87 {C : zC} {E : yE} (hx : y_ok C cL_cuts RL E) (hn : z_nL C = 14) (hR : z_R C = rm_L_cuts) {rr : Int × zS} (hq : y_fin C (some .boolean) (z_QI (z_g C) rr.1 rr.2)) {K21 : zS → Int → Int → Int → Int → Int → Int → Int → Option (Int × zS)} (hK21 : ∀ (σ : zS) (x1 : Int) (x2 : Int) (x3 : Int) (x4 : Int) (x5 : Int) (x6 : Int) (x7 : Int) , K21 σ x1 x2 x3 x4 x5 x6 x7 = some rr → y_W C σ 21 [(0, .ref (z_ad (z_g C) 62)), (1, .int (zi x1)), (2, .int (zi x2)), (3, .int (zi x3)), (4, .int (zi x4)), (5, .int (zi x5)), (6, .int (zi x6)), (7, .int (zi x7))] []) (σ : zS) (x1 : Int) (x4 : Int) (x5 : Int) (x6 : Int) (x7 : Int) (x8 : Int) (x9 : Int) (x10 : Int) (x11 : Int) (h : f_L_cuts_b87 K21 σ x1 x4 x5 x6 x7 x8 x9 x10 x11 = some rr) : y_W C σ 87 [(0, .ref (z_ad (z_g C) 62)), (1, .int (zi x1)), (4, .int (zi x4)), (5, .int (zi x5)), (6, .int (zi x6)), (7, .int (zi x7)), (8, .int (zi x8)), (9, .int (zi x9)), (10, .int (zi x10)), (11, .int (zi x11))] [] := by
  intro d hd
  unfold f_L_cuts_b87 at h
  refine z_iload (hx.1 d) 7 dL_cuts_87 rfl ?_
  refine z_iload (hx.1 d) 6 dL_cuts_89 rfl ?_
  refine z_icmp_lt (hx.1 d) (tgt := 204) dL_cuts_91 (by decide) h (fun h => h) (fun hc h => ?_) (fun hc h => ?_)
  · refine z_sub [] rfl ?_
    exact w_L_cuts_b204 hx hn hR hq σ h d hd
  · refine z_iload (hx.1 d) 7 dL_cuts_94 rfl ?_
    refine z_aload_n (hx.1 d) 0 dL_cuts_96 rfl ?_
    refine z_bipush (hx.1 d) (n := 7) dL_cuts_97 rfl ?_
    obtain ⟨r2, σ1, h99, h⟩ := z_bind_some h
    refine z_calli (hx.1 d) (As := [.int (zi 7)]) (k := 62) (met_X5_setting (z_l C) (z_g C) (y_sd hx) h99) (z_lt0 (z_ok_sd (hx.1 d)) (by decide)) (z_kb62 (z_ok_sd (hx.1 d)) _) rfl rfl cv_L_15 (z_room hR ⟨Nat.le_of_ble_eq_true rfl, Nat.le_of_ble_eq_true rfl⟩) ⟨rfl, rfl⟩ rfl rfl (Nat.le_of_ble_eq_true rfl) dL_cuts_99 ?_
    refine z_icmp_gt (hx.1 d) (tgt := 204) dL_cuts_102 (by decide) h (fun h => h) (fun hc h => ?_) (fun hc h => ?_)
    · refine z_sub [] rfl ?_
      exact w_L_cuts_b204 hx hn hR hq σ1 h d hd
    · refine z_aload_n (hx.1 d) 0 dL_cuts_105 rfl ?_
      refine z_iload (hx.1 d) 8 dL_cuts_106 rfl ?_
      refine z_iconst (hx.1 d) (n := 5) dL_cuts_108 ?_
      obtain ⟨r4, σ3, h109, h⟩ := z_bind_some h
      refine z_calli (hx.1 d) (As := [.int (zi x10), .int (zi 5)]) (k := 62) (met_X5_about (z_l C) (z_g C) (y_sd hx) h109) (z_lt0 (z_ok_sd (hx.1 d)) (by decide)) (z_kb62 (z_ok_sd (hx.1 d)) _) rfl rfl cv_L_40 (z_room hR ⟨Nat.le_of_ble_eq_true rfl, Nat.le_of_ble_eq_true rfl⟩) ⟨rfl, rfl⟩ rfl rfl (Nat.le_of_ble_eq_true rfl) dL_cuts_109 ?_
      refine z_iload (hx.1 d) 5 dL_cuts_112 rfl ?_
      refine z_icmp_ne (hx.1 d) (tgt := 204) dL_cuts_114 (by decide) h (fun h => h) (fun hc h => ?_) (fun hc h => ?_)
      · refine z_sub [] rfl ?_
        exact w_L_cuts_b204 hx hn hR hq σ3 h d hd
      · refine z_iload (hx.1 d) 9 dL_cuts_117 rfl ?_
        refine z_iconst (hx.1 d) (n := 1) dL_cuts_119 ?_
        refine z_icmp_gt (hx.1 d) (tgt := 204) dL_cuts_120 (by decide) h (fun h => ⟨h, by decide⟩) (fun hc h => ?_) (fun hc h => ?_)
        · refine z_sub [] rfl ?_
          exact w_L_cuts_b204 hx hn hR hq σ3 h d hd
        · refine z_aload_n (hx.1 d) 0 dL_cuts_123 rfl ?_
          refine z_iload (hx.1 d) 8 dL_cuts_124 rfl ?_
          refine z_iconst (hx.1 d) (n := 4) dL_cuts_126 ?_
          obtain ⟨r6, σ5, h127, h⟩ := z_bind_some h
          refine z_calli (hx.1 d) (As := [.int (zi x10), .int (zi 4)]) (k := 62) (met_X5_about (z_l C) (z_g C) (y_sd hx) h127) (z_lt0 (z_ok_sd (hx.1 d)) (by decide)) (z_kb62 (z_ok_sd (hx.1 d)) _) rfl rfl cv_L_40 (z_room hR ⟨Nat.le_of_ble_eq_true rfl, Nat.le_of_ble_eq_true rfl⟩) ⟨rfl, rfl⟩ rfl rfl (Nat.le_of_ble_eq_true rfl) dL_cuts_127 ?_
          refine z_iconst (hx.1 d) (n := 1) dL_cuts_130 ?_
          refine z_icmp_eq (hx.1 d) (tgt := 204) dL_cuts_131 (by decide) h (fun h => ⟨h, by decide⟩) (fun hc h => ?_) (fun hc h => ?_)
          · refine z_sub [] rfl ?_
            exact w_L_cuts_b204 hx hn hR hq σ5 h d hd
          · refine z_iload (hx.1 d) 9 dL_cuts_134 rfl ?_
            refine z_if_ne (hx.1 d) (tgt := 154) dL_cuts_136 (by decide) h (fun h => h) (fun hc h => ?_) (fun hc h => ?_)
            · refine z_sub [0, 1, 2, 3, 4, 5, 6, 7, 8, 9] rfl ?_
              exact w_L_cuts_b154 hx hn hR hq hK21 σ5 x1 x4 x5 x6 x7 x8 x9 x10 x11 h d hd
            · refine z_aload_n (hx.1 d) 0 dL_cuts_139 rfl ?_
              refine z_iload (hx.1 d) 8 dL_cuts_140 rfl ?_
              refine z_iconst (hx.1 d) (n := 3) dL_cuts_142 ?_
              obtain ⟨r8, σ7, h143, h⟩ := z_bind_some h
              refine z_calli (hx.1 d) (As := [.int (zi x10), .int (zi 3)]) (k := 62) (met_X5_about (z_l C) (z_g C) (y_sd hx) h143) (z_lt0 (z_ok_sd (hx.1 d)) (by decide)) (z_kb62 (z_ok_sd (hx.1 d)) _) rfl rfl cv_L_40 (z_room hR ⟨Nat.le_of_ble_eq_true rfl, Nat.le_of_ble_eq_true rfl⟩) ⟨rfl, rfl⟩ rfl rfl (Nat.le_of_ble_eq_true rfl) dL_cuts_143 ?_
              refine z_aload_n (hx.1 d) 0 dL_cuts_146 rfl ?_
              refine z_iconst (hx.1 d) (n := 0) dL_cuts_147 ?_
              obtain ⟨r10, σ9, h148, h⟩ := z_bind_some h
              refine z_calli (hx.1 d) (As := [.int (zi 0)]) (k := 62) (met_X5_setting (z_l C) (z_g C) (y_sd hx) h148) (z_lt0 (z_ok_sd (hx.1 d)) (by decide)) (z_kb62 (z_ok_sd (hx.1 d)) _) rfl rfl cv_L_15 (z_room hR ⟨Nat.le_of_ble_eq_true rfl, Nat.le_of_ble_eq_true rfl⟩) ⟨rfl, rfl⟩ rfl rfl (Nat.le_of_ble_eq_true rfl) dL_cuts_148 ?_
              refine z_icmp_gt (hx.1 d) (tgt := 204) dL_cuts_151 (by decide) h (fun h => h) (fun hc h => ?_) (fun hc h => ?_)
              · refine z_sub [] rfl ?_
                exact w_L_cuts_b204 hx hn hR hq σ9 h d hd
              · refine z_sub [0, 1, 2, 3, 4, 5, 6, 7, 8, 9] rfl ?_
                exact w_L_cuts_b154 hx hn hR hq hK21 σ9 x1 x4 x5 x6 x7 x8 x9 x10 x11 h d hd

theorem w_L_cuts_b21 {C : zC} {E : yE} (hx : y_ok C cL_cuts RL E) (hn : z_nL C = 14) (hR : z_R C = rm_L_cuts) {rr : Int × zS} (hq : y_fin C (some .boolean) (z_QI (z_g C) rr.1 rr.2)) {K21 : zS → Int → Int → Int → Int → Int → Int → Int → Option (Int × zS)} (hK21 : ∀ (σ : zS) (x1 : Int) (x2 : Int) (x3 : Int) (x4 : Int) (x5 : Int) (x6 : Int) (x7 : Int) , K21 σ x1 x2 x3 x4 x5 x6 x7 = some rr → y_W C σ 21 [(0, .ref (z_ad (z_g C) 62)), (1, .int (zi x1)), (2, .int (zi x2)), (3, .int (zi x3)), (4, .int (zi x4)), (5, .int (zi x5)), (6, .int (zi x6)), (7, .int (zi x7))] []) (σ : zS) (x1 : Int) (x2 : Int) (x3 : Int) (x4 : Int) (x5 : Int) (x6 : Int) (x7 : Int) (h : f_L_cuts_b21 K21 σ x1 x2 x3 x4 x5 x6 x7 = some rr) : y_W C σ 21 [(0, .ref (z_ad (z_g C) 62)), (1, .int (zi x1)), (2, .int (zi x2)), (3, .int (zi x3)), (4, .int (zi x4)), (5, .int (zi x5)), (6, .int (zi x6)), (7, .int (zi x7))] [] := by
  intro d hd
  unfold f_L_cuts_b21 at h
  refine z_iload (hx.1 d) 7 dL_cuts_21 rfl ?_
  refine z_iload_n (hx.1 d) 1 dL_cuts_23 rfl ?_
  refine z_icmp_ge (hx.1 d) (tgt := 391) dL_cuts_24 (by decide) h (fun h => h) (fun hc h => ?_) (fun hc h => ?_)
  · refine z_aload_n (hx.1 d) 0 dL_cuts_391 rfl ?_
    refine z_iconst (hx.1 d) (n := 0) dL_cuts_392 ?_
    obtain ⟨r2, σ1, h393, h⟩ := z_bind_some h
    refine z_calli (hx.1 d) (As := [.int (zi 0)]) (k := 62) (met_X5_sum (z_l C) (z_g C) (y_sd hx) h393) (z_lt0 (z_ok_sd (hx.1 d)) (by decide)) (z_kb62 (z_ok_sd (hx.1 d)) _) rfl rfl cv_L_53 (z_room hR ⟨Nat.le_of_ble_eq_true rfl, Nat.le_of_ble_eq_true rfl⟩) ⟨rfl, rfl⟩ rfl rfl (Nat.le_of_ble_eq_true rfl) dL_cuts_393 ?_
    refine z_iload (hx.1 d) 4 dL_cuts_396 rfl ?_
    refine z_icmp_ne (hx.1 d) (tgt := 444) dL_cuts_398 (by decide) h (fun h => h) (fun hc h => ?_) (fun hc h => ?_)
    · refine z_sub [] rfl ?_
      exact w_L_cuts_b444 hx hn hR hq σ1 h d hd
    · refine z_aload_n (hx.1 d) 0 dL_cuts_401 rfl ?_
      refine z_iconst (hx.1 d) (n := 1) dL_cuts_402 ?_
      obtain ⟨r4, σ3, h403, h⟩ := z_bind_some h
      refine z_calli (hx.1 d) (As := [.int (zi 1)]) (k := 62) (met_X5_sum (z_l C) (z_g C) (y_sd hx) h403) (z_lt0 (z_ok_sd (hx.1 d)) (by decide)) (z_kb62 (z_ok_sd (hx.1 d)) _) rfl rfl cv_L_53 (z_room hR ⟨Nat.le_of_ble_eq_true rfl, Nat.le_of_ble_eq_true rfl⟩) ⟨rfl, rfl⟩ rfl rfl (Nat.le_of_ble_eq_true rfl) dL_cuts_403 ?_
      refine z_iload (hx.1 d) 5 dL_cuts_406 rfl ?_
      refine z_icmp_ne (hx.1 d) (tgt := 444) dL_cuts_408 (by decide) h (fun h => h) (fun hc h => ?_) (fun hc h => ?_)
      · refine z_sub [] rfl ?_
        exact w_L_cuts_b444 hx hn hR hq σ3 h d hd
      · refine z_aload_n (hx.1 d) 0 dL_cuts_411 rfl ?_
        refine z_iconst (hx.1 d) (n := 2) dL_cuts_412 ?_
        obtain ⟨r6, σ5, h413, h⟩ := z_bind_some h
        refine z_calli (hx.1 d) (As := [.int (zi 2)]) (k := 62) (met_X5_sum (z_l C) (z_g C) (y_sd hx) h413) (z_lt0 (z_ok_sd (hx.1 d)) (by decide)) (z_kb62 (z_ok_sd (hx.1 d)) _) rfl rfl cv_L_53 (z_room hR ⟨Nat.le_of_ble_eq_true rfl, Nat.le_of_ble_eq_true rfl⟩) ⟨rfl, rfl⟩ rfl rfl (Nat.le_of_ble_eq_true rfl) dL_cuts_413 ?_
        refine z_iload (hx.1 d) 6 dL_cuts_416 rfl ?_
        refine z_icmp_ne (hx.1 d) (tgt := 444) dL_cuts_418 (by decide) h (fun h => h) (fun hc h => ?_) (fun hc h => ?_)
        · refine z_sub [] rfl ?_
          exact w_L_cuts_b444 hx hn hR hq σ5 h d hd
        · refine z_aload_n (hx.1 d) 0 dL_cuts_421 rfl ?_
          obtain ⟨r8, σ7, h422, h⟩ := z_bind_some h
          refine z_calli (hx.1 d) (As := []) (k := 62) (met_X5_length (z_l C) (z_g C) (y_sd hx) h422) (z_lt0 (z_ok_sd (hx.1 d)) (by decide)) (z_kb62 (z_ok_sd (hx.1 d)) _) rfl rfl cv_L_59 (z_room hR ⟨Nat.le_of_ble_eq_true rfl, Nat.le_of_ble_eq_true rfl⟩) ⟨rfl, rfl⟩ rfl rfl (Nat.le_of_ble_eq_true rfl) dL_cuts_422 ?_
          refine z_aload_n (hx.1 d) 0 dL_cuts_425 rfl ?_
          refine z_bipush (hx.1 d) (n := 7) dL_cuts_426 rfl ?_
          obtain ⟨r10, σ9, h428, h⟩ := z_bind_some h
          refine z_calli (hx.1 d) (As := [.int (zi 7)]) (k := 62) (met_X5_setting (z_l C) (z_g C) (y_sd hx) h428) (z_lt0 (z_ok_sd (hx.1 d)) (by decide)) (z_kb62 (z_ok_sd (hx.1 d)) _) rfl rfl cv_L_15 (z_room hR ⟨Nat.le_of_ble_eq_true rfl, Nat.le_of_ble_eq_true rfl⟩) ⟨rfl, rfl⟩ rfl rfl (Nat.le_of_ble_eq_true rfl) dL_cuts_428 ?_
          refine z_iload (hx.1 d) 4 dL_cuts_431 rfl ?_
          refine z_isub (hx.1 d) dL_cuts_433 ?_
          refine z_iload (hx.1 d) 5 dL_cuts_434 rfl ?_
          refine z_iadd (hx.1 d) dL_cuts_436 ?_
          refine z_icmp_ne (hx.1 d) (tgt := 444) dL_cuts_437 (by decide) h (fun h => h) (fun hc h => ?_) (fun hc h => ?_)
          · refine z_sub [] rfl ?_
            exact w_L_cuts_b444 hx hn hR hq σ9 h d hd
          · refine z_iconst (hx.1 d) (n := 1) dL_cuts_440 ?_
            refine z_goto (hx.1 d) (tgt := 445) dL_cuts_441 (by decide) ?_
            refine z_sub [] rfl ?_
            exact w_L_cuts_b445 hx hn hR hq σ9 1 h d hd
  · refine z_aload_n (hx.1 d) 0 dL_cuts_27 rfl ?_
    refine z_iload (hx.1 d) 7 dL_cuts_28 rfl ?_
    refine z_iconst (hx.1 d) (n := 0) dL_cuts_30 ?_
    obtain ⟨r12, σ11, h31, h⟩ := z_bind_some h
    refine z_calli (hx.1 d) (As := [.int (zi x7), .int (zi 0)]) (k := 62) (met_X5_cut (z_l C) (z_g C) (y_sd hx) h31) (z_lt0 (z_ok_sd (hx.1 d)) (by decide)) (z_kb62 (z_ok_sd (hx.1 d)) _) rfl rfl cv_L_50 (z_room hR ⟨Nat.le_of_ble_eq_true rfl, Nat.le_of_ble_eq_true rfl⟩) ⟨rfl, rfl⟩ rfl rfl (Nat.le_of_ble_eq_true rfl) dL_cuts_31 ?_
    refine z_istore (hx.1 d) hn (lv' := [(8, .int (zi r12)), (0, .ref (z_ad (z_g C) 62)), (1, .int (zi x1)), (2, .int (zi x2)), (3, .int (zi x3)), (4, .int (zi x4)), (5, .int (zi x5)), (6, .int (zi x6)), (7, .int (zi x7))]) dL_cuts_34 (by decide) rfl ?_
    refine z_aload_n (hx.1 d) 1 dL_cuts_36 rfl ?_
    refine z_iload (hx.1 d) 8 dL_cuts_37 rfl ?_
    refine z_iconst (hx.1 d) (n := 1) dL_cuts_39 ?_
    obtain ⟨r14, σ13, h40, h⟩ := z_bind_some h
    refine z_calli (hx.1 d) (As := [.int (zi x7), .int (zi 1)]) (k := 62) (met_X5_cut (z_l C) (z_g C) (y_sd hx) h40) (z_lt0 (z_ok_sd (hx.1 d)) (by decide)) (z_kb62 (z_ok_sd (hx.1 d)) _) rfl rfl cv_L_50 (z_room hR ⟨Nat.le_of_ble_eq_true rfl, Nat.le_of_ble_eq_true rfl⟩) ⟨rfl, rfl⟩ rfl rfl (Nat.le_of_ble_eq_true rfl) dL_cuts_40 ?_
    refine z_istore (hx.1 d) hn (lv' := [(9, .int (zi r14)), (8, .int (zi r12)), (0, .ref (z_ad (z_g C) 62)), (1, .int (zi x1)), (2, .int (zi x2)), (3, .int (zi x3)), (4, .int (zi x4)), (5, .int (zi x5)), (6, .int (zi x6)), (7, .int (zi x7))]) dL_cuts_43 (by decide) rfl ?_
    refine z_aload_n (hx.1 d) 2 dL_cuts_45 rfl ?_
    refine z_iload (hx.1 d) 9 dL_cuts_46 rfl ?_
    refine z_iconst (hx.1 d) (n := 4) dL_cuts_48 ?_
    obtain ⟨r16, σ15, h49, h⟩ := z_bind_some h
    refine z_calli (hx.1 d) (As := [.int (zi x7), .int (zi 4)]) (k := 62) (met_X5_cut (z_l C) (z_g C) (y_sd hx) h49) (z_lt0 (z_ok_sd (hx.1 d)) (by decide)) (z_kb62 (z_ok_sd (hx.1 d)) _) rfl rfl cv_L_50 (z_room hR ⟨Nat.le_of_ble_eq_true rfl, Nat.le_of_ble_eq_true rfl⟩) ⟨rfl, rfl⟩ rfl rfl (Nat.le_of_ble_eq_true rfl) dL_cuts_49 ?_
    refine z_istore (hx.1 d) hn (lv' := [(10, .int (zi r16)), (9, .int (zi r14)), (8, .int (zi r12)), (0, .ref (z_ad (z_g C) 62)), (1, .int (zi x1)), (2, .int (zi x2)), (3, .int (zi x3)), (4, .int (zi x4)), (5, .int (zi x5)), (6, .int (zi x6)), (7, .int (zi x7))]) dL_cuts_52 (by decide) rfl ?_
    refine z_aload_n (hx.1 d) 3 dL_cuts_54 rfl ?_
    refine z_iload (hx.1 d) 0 dL_cuts_55 rfl ?_
    refine z_iconst (hx.1 d) (n := 0) dL_cuts_57 ?_
    obtain ⟨r18, σ17, h58, h⟩ := z_bind_some h
    refine z_calli (hx.1 d) (As := [.int (zi r16), .int (zi 0)]) (k := 62) (met_X5_about (z_l C) (z_g C) (y_sd hx) h58) (z_lt0 (z_ok_sd (hx.1 d)) (by decide)) (z_kb62 (z_ok_sd (hx.1 d)) _) rfl rfl cv_L_40 (z_room hR ⟨Nat.le_of_ble_eq_true rfl, Nat.le_of_ble_eq_true rfl⟩) ⟨rfl, rfl⟩ rfl rfl (Nat.le_of_ble_eq_true rfl) dL_cuts_58 ?_
    refine z_istore (hx.1 d) hn (lv' := [(11, .int (zi r18)), (10, .int (zi r16)), (9, .int (zi r14)), (8, .int (zi r12)), (0, .ref (z_ad (z_g C) 62)), (1, .int (zi x1)), (2, .int (zi x2)), (3, .int (zi x3)), (4, .int (zi x4)), (5, .int (zi x5)), (6, .int (zi x6)), (7, .int (zi x7))]) dL_cuts_61 (by decide) rfl ?_
    refine z_iload (hx.1 d) 1 dL_cuts_63 rfl ?_
    refine z_iload_n (hx.1 d) 7 dL_cuts_65 rfl ?_
    refine z_icmp_le (hx.1 d) (tgt := 204) dL_cuts_66 (by decide) h (fun h => h) (fun hc h => ?_) (fun hc h => ?_)
    · refine z_sub [] rfl ?_
      exact w_L_cuts_b204 hx hn hR hq σ17 h d hd
    · refine z_iload (hx.1 d) 3 dL_cuts_69 rfl ?_
      refine z_iload_n (hx.1 d) 6 dL_cuts_71 rfl ?_
      refine z_icmp_lt (hx.1 d) (tgt := 204) dL_cuts_72 (by decide) h (fun h => h) (fun hc h => ?_) (fun hc h => ?_)
      · refine z_sub [] rfl ?_
        exact w_L_cuts_b204 hx hn hR hq σ17 h d hd
      · refine z_iload (hx.1 d) 2 dL_cuts_75 rfl ?_
        refine z_iload (hx.1 d) 3 dL_cuts_77 rfl ?_
        refine z_icmp_gt (hx.1 d) (tgt := 87) dL_cuts_79 (by decide) h (fun h => h) (fun hc h => ?_) (fun hc h => ?_)
        · refine z_sub [4, 5, 8, 9, 10, 11, 3, 2, 1, 0] rfl ?_
          exact w_L_cuts_b87 hx hn hR hq hK21 σ17 x1 x4 x5 x6 x7 r12 r14 r16 r18 h d hd
        · refine z_iload (hx.1 d) 0 dL_cuts_82 rfl ?_
          refine z_if_eq (hx.1 d) (tgt := 204) dL_cuts_84 (by decide) h (fun h => h) (fun hc h => ?_) (fun hc h => ?_)
          · refine z_sub [] rfl ?_
            exact w_L_cuts_b204 hx hn hR hq σ17 h d hd
          · refine z_sub [4, 5, 8, 9, 10, 11, 3, 2, 1, 0] rfl ?_
            exact w_L_cuts_b87 hx hn hR hq hK21 σ17 x1 x4 x5 x6 x7 r12 r14 r16 r18 h d hd

theorem w_L_cuts_l21 {C : zC} {E : yE} (hx : y_ok C cL_cuts RL E) (hn : z_nL C = 14) (hR : z_R C = rm_L_cuts) {rr : Int × zS} (hq : y_fin C (some .boolean) (z_QI (z_g C) rr.1 rr.2)) : ∀ (n : Nat) (σ : zS) (x1 : Int) (x2 : Int) (x3 : Int) (x4 : Int) (x5 : Int) (x6 : Int) (x7 : Int) (_ : f_L_cuts_l21 n σ x1 x2 x3 x4 x5 x6 x7 = some rr), y_W C σ 21 [(0, .ref (z_ad (z_g C) 62)), (1, .int (zi x1)), (2, .int (zi x2)), (3, .int (zi x3)), (4, .int (zi x4)), (5, .int (zi x5)), (6, .int (zi x6)), (7, .int (zi x7))] [] := by
  intro n
  induction n with
  | zero => intro σ x1 x2 x3 x4 x5 x6 x7 h; cases h
  | succ n ih =>
    intro σ x1 x2 x3 x4 x5 x6 x7 h
    exact w_L_cuts_b21 hx hn hR hq ih σ x1 x2 x3 x4 x5 x6 x7 h
theorem w_L_cuts {C : zC} {E : yE} (hx : y_ok C cL_cuts RL E) (hn : z_nL C = 14) (hR : z_R C = rm_L_cuts) {rr : Int × zS} (hq : y_fin C (some .boolean) (z_QI (z_g C) rr.1 rr.2)) (σ : zS) (h : f_L_cuts σ = some rr) : y_W C σ 0 [(0, .ref (z_ad (z_g C) 62))] [] := by
  intro d hd
  unfold f_L_cuts at h
  refine z_aload_n (hx.1 d) 0 dL_cuts_0 rfl ?_
  obtain ⟨r2, σ1, h1, h⟩ := z_bind_some h
  refine z_calli (hx.1 d) (As := []) (k := 62) (met_X5_cuts (z_l C) (z_g C) (y_sd hx) h1) (z_lt0 (z_ok_sd (hx.1 d)) (by decide)) (z_kb62 (z_ok_sd (hx.1 d)) _) rfl rfl cv_L_46 (z_room hR ⟨Nat.le_of_ble_eq_true rfl, Nat.le_of_ble_eq_true rfl⟩) ⟨rfl, rfl⟩ rfl rfl (Nat.le_of_ble_eq_true rfl) dL_cuts_1 ?_
  refine z_istore_n (hx.1 d) hn (lv' := [(1, .int (zi r2)), (0, .ref (z_ad (z_g C) 62))]) dL_cuts_4 (by decide) rfl ?_
  refine z_iconst (hx.1 d) (n := 0) dL_cuts_5 ?_
  refine z_istore_n (hx.1 d) hn (lv' := [(2, .int (zi 0)), (1, .int (zi r2)), (0, .ref (z_ad (z_g C) 62))]) dL_cuts_6 (by decide) rfl ?_
  refine z_iconst (hx.1 d) (n := (-1)) dL_cuts_7 ?_
  refine z_istore_n (hx.1 d) hn (lv' := [(3, .int (zi (-1))), (2, .int (zi 0)), (1, .int (zi r2)), (0, .ref (z_ad (z_g C) 62))]) dL_cuts_8 (by decide) rfl ?_
  refine z_iconst (hx.1 d) (n := 0) dL_cuts_9 ?_
  refine z_istore (hx.1 d) hn (lv' := [(4, .int (zi 0)), (3, .int (zi (-1))), (2, .int (zi 0)), (1, .int (zi r2)), (0, .ref (z_ad (z_g C) 62))]) dL_cuts_10 (by decide) rfl ?_
  refine z_iconst (hx.1 d) (n := 0) dL_cuts_12 ?_
  refine z_istore (hx.1 d) hn (lv' := [(5, .int (zi 0)), (4, .int (zi 0)), (3, .int (zi (-1))), (2, .int (zi 0)), (1, .int (zi r2)), (0, .ref (z_ad (z_g C) 62))]) dL_cuts_13 (by decide) rfl ?_
  refine z_iconst (hx.1 d) (n := 0) dL_cuts_15 ?_
  refine z_istore (hx.1 d) hn (lv' := [(6, .int (zi 0)), (5, .int (zi 0)), (4, .int (zi 0)), (3, .int (zi (-1))), (2, .int (zi 0)), (1, .int (zi r2)), (0, .ref (z_ad (z_g C) 62))]) dL_cuts_16 (by decide) rfl ?_
  refine z_iconst (hx.1 d) (n := 0) dL_cuts_18 ?_
  refine z_istore (hx.1 d) hn (lv' := [(7, .int (zi 0)), (6, .int (zi 0)), (5, .int (zi 0)), (4, .int (zi 0)), (3, .int (zi (-1))), (2, .int (zi 0)), (1, .int (zi r2)), (0, .ref (z_ad (z_g C) 62))]) dL_cuts_19 (by decide) rfl ?_
  refine z_sub [7, 6, 5, 4, 3, 2, 1, 0] rfl ?_
  exact w_L_cuts_l21 hx hn hR hq z_fuel σ1 r2 0 (-1) 0 0 0 0 h d hd

theorem met_L_cuts (l : Launch) (g : zG) (E : yE) (hg : g.1 = 0) {σ : zS} {rr : Int × zS} (h : f_L_cuts σ = some rr) : y_Met l yL_cuts cL_cuts 14 (some .boolean) rm_L_cuts g E [.ref (z_ad (g) 62)] σ (z_QI g rr.1 rr.2) := by
  refine y_enter (own := RL) (lv0 := [(0, .ref (z_ad (g) 62))]) (by decide) rfl (Nat.le_of_ble_eq_true rfl) hg rfl (fun C hx hl hgC hR hn hq => ?_)
  subst hgC
  intro d hd
  refine z_sub [0] rfl ?_
  exact w_L_cuts hx hn hR hq σ h d hd
