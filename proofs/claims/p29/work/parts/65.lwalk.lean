/-! the law's walks, by program: result -/
abbrev rm_L_result : Room := { frames := 7, cells := 0, slots := 0, locals := 169 }
theorem w_L_result_b323 {C : zC} {E : yE} (hx : y_ok C cL_result RL E) (hn : z_nL C = 9) (hR : z_R C = rm_L_result) {rr : Int × zS} (hq : y_fin C (some .boolean) (z_QI (z_g C) rr.1 rr.2)) (σ : zS) (s0 : Int) (h : f_L_result_b323 σ s0 = some rr) : y_W C σ 323 [] [.int (zi s0)] := by
  intro d hd
  unfold f_L_result_b323 at h
  obtain ⟨hz, h⟩ := z_gd h
  cases h
  exact y_zret hx hd hz hq dL_result_323

theorem w_L_result_b322 {C : zC} {E : yE} (hx : y_ok C cL_result RL E) (hn : z_nL C = 9) (hR : z_R C = rm_L_result) {rr : Int × zS} (hq : y_fin C (some .boolean) (z_QI (z_g C) rr.1 rr.2)) (σ : zS) (h : f_L_result_b322 σ = some rr) : y_W C σ 322 [] [] := by
  intro d hd
  unfold f_L_result_b322 at h
  refine z_iconst (hx.1 d) (n := 0) dL_result_322 ?_
  refine z_sub [] rfl ?_
  exact w_L_result_b323 hx hn hR hq σ 0 h d hd

theorem w_L_result_b307 {C : zC} {E : yE} (hx : y_ok C cL_result RL E) (hn : z_nL C = 9) (hR : z_R C = rm_L_result) {rr : Int × zS} (hq : y_fin C (some .boolean) (z_QI (z_g C) rr.1 rr.2)) (σ : zS) (x1 : Int) (s0 : Int) (s1 : Int) (h : f_L_result_b307 σ x1 s0 s1 = some rr) : y_W C σ 307 [(0, .ref (z_ad (z_g C) 62)), (1, .int (zi x1))] [.int (zi s1), .int (zi s0)] := by
  intro d hd
  unfold f_L_result_b307 at h
  refine z_icmp_ge (hx.1 d) (tgt := 322) dL_result_307 (by decide) h (fun h => h) (fun hc h => ?_) (fun hc h => ?_)
  · refine z_sub [] rfl ?_
    exact w_L_result_b322 hx hn hR hq σ h d hd
  · refine z_aload_n (hx.1 d) 0 dL_result_310 rfl ?_
    obtain ⟨r2, σ1, h311, h⟩ := z_bind_some h
    refine z_calli (hx.1 d) (As := []) (k := 62) (met_X5_silence (z_l C) (z_g C) (y_sd hx) h311) (z_lt0 (z_ok_sd (hx.1 d)) (by decide)) (z_kb62 (z_ok_sd (hx.1 d)) _) rfl rfl cv_L_84 (z_room hR ⟨Nat.le_of_ble_eq_true rfl, Nat.le_of_ble_eq_true rfl⟩) ⟨rfl, rfl⟩ rfl rfl (Nat.le_of_ble_eq_true rfl) dL_result_311 ?_
    refine z_iload_n (hx.1 d) 1 dL_result_314 rfl ?_
    refine z_icmp_gt (hx.1 d) (tgt := 322) dL_result_315 (by decide) h (fun h => h) (fun hc h => ?_) (fun hc h => ?_)
    · refine z_sub [] rfl ?_
      exact w_L_result_b322 hx hn hR hq σ1 h d hd
    · refine z_iconst (hx.1 d) (n := 1) dL_result_318 ?_
      refine z_goto (hx.1 d) (tgt := 323) dL_result_319 (by decide) ?_
      refine z_sub [] rfl ?_
      exact w_L_result_b323 hx hn hR hq σ1 1 h d hd

theorem w_L_result_b243 {C : zC} {E : yE} (hx : y_ok C cL_result RL E) (hn : z_nL C = 9) (hR : z_R C = rm_L_result) {rr : Int × zS} (hq : y_fin C (some .boolean) (z_QI (z_g C) rr.1 rr.2)) (σ : zS) (x1 : Int) (x3 : Int) (x6 : Int) (q7 : Int × Int) (u7 : UInt32) (hu7 : z_flt q7 u7) (p0 : Int × Int) (v0 : UInt32) (hv0 : z_flt p0 v0) (h : f_L_result_b243 σ x1 x3 x6 q7 p0 = some rr) : y_W C σ 243 [(0, .ref (z_ad (z_g C) 62)), (1, .int (zi x1)), (3, .int (zi x3)), (6, .int (zi x6)), (7, .float u7)] [.float v0] := by
  intro d hd
  unfold f_L_result_b243 at h
  refine y_fstore (hx.1 d) hn (lv' := [(8, .float v0), (0, .ref (z_ad (z_g C) 62)), (1, .int (zi x1)), (3, .int (zi x3)), (6, .int (zi x6)), (7, .float u7)]) dL_result_243 (by decide) rfl ?_
  refine z_iload_n (hx.1 d) 3 dL_result_245 rfl ?_
  refine z_aload_n (hx.1 d) 1 dL_result_246 rfl ?_
  refine z_iconst (hx.1 d) (n := 1) dL_result_247 ?_
  obtain ⟨r2, σ1, h248, h⟩ := z_bind_some h
  refine z_calli (hx.1 d) (As := [.int (zi 1)]) (k := 62) (met_X5_sum (z_l C) (z_g C) (y_sd hx) h248) (z_lt0 (z_ok_sd (hx.1 d)) (by decide)) (z_kb62 (z_ok_sd (hx.1 d)) _) rfl rfl cv_L_53 (z_room hR ⟨Nat.le_of_ble_eq_true rfl, Nat.le_of_ble_eq_true rfl⟩) ⟨rfl, rfl⟩ rfl rfl (Nat.le_of_ble_eq_true rfl) dL_result_248 ?_
  refine z_icmp_ne (hx.1 d) (tgt := 322) dL_result_251 (by decide) h (fun h => h) (fun hc h => ?_) (fun hc h => ?_)
  · refine z_sub [] rfl ?_
    exact w_L_result_b322 hx hn hR hq σ1 h d hd
  · refine z_iload (hx.1 d) 4 dL_result_254 rfl ?_
    refine z_aload_n (hx.1 d) 1 dL_result_256 rfl ?_
    refine z_iconst (hx.1 d) (n := 0) dL_result_257 ?_
    obtain ⟨r4, σ3, h258, h⟩ := z_bind_some h
    refine z_calli (hx.1 d) (As := [.int (zi 0)]) (k := 62) (met_X5_sum (z_l C) (z_g C) (y_sd hx) h258) (z_lt0 (z_ok_sd (hx.1 d)) (by decide)) (z_kb62 (z_ok_sd (hx.1 d)) _) rfl rfl cv_L_53 (z_room hR ⟨Nat.le_of_ble_eq_true rfl, Nat.le_of_ble_eq_true rfl⟩) ⟨rfl, rfl⟩ rfl rfl (Nat.le_of_ble_eq_true rfl) dL_result_258 ?_
    refine z_icmp_ne (hx.1 d) (tgt := 322) dL_result_261 (by decide) h (fun h => h) (fun hc h => ?_) (fun hc h => ?_)
    · refine z_sub [] rfl ?_
      exact w_L_result_b322 hx hn hR hq σ3 h d hd
    · refine z_aload_n (hx.1 d) 1 dL_result_264 rfl ?_
      obtain ⟨r6, σ5, h265, h⟩ := z_bind_some h
      refine y_callf hx hd (met_X5_loudness (z_l C) (z_g C) (y_sd hx) h265) rfl cv_L_77 (z_room hR ⟨Nat.le_of_ble_eq_true rfl, Nat.le_of_ble_eq_true rfl⟩) ⟨rfl, rfl⟩ (Nat.le_of_ble_eq_true rfl) dL_result_265 (fun w265 d hd hw265 => ?_)
      refine y_fload (hx.1 d) 5 dL_result_268 rfl ?_
      refine y_fcmpl (hx.1 d) hw265 hu7 dL_result_270 h (fun h => ?_)
      refine z_if_ne (hx.1 d) (tgt := 322) dL_result_271 (by decide) h (fun h => h) (fun hc h => ?_) (fun hc h => ?_)
      · refine z_sub [] rfl ?_
        exact w_L_result_b322 hx hn hR hq σ5 h d hd
      · refine z_aload_n (hx.1 d) 1 dL_result_274 rfl ?_
        obtain ⟨r8, σ7, h275, h⟩ := z_bind_some h
        refine y_callf hx hd (met_X5_share (z_l C) (z_g C) (y_sd hx) h275) rfl cv_L_81 (z_room hR ⟨Nat.le_of_ble_eq_true rfl, Nat.le_of_ble_eq_true rfl⟩) ⟨rfl, rfl⟩ (Nat.le_of_ble_eq_true rfl) dL_result_275 (fun w275 d hd hw275 => ?_)
        refine y_fload (hx.1 d) 0 dL_result_278 rfl ?_
        refine y_fcmpl (hx.1 d) hw275 hv0 dL_result_280 h (fun h => ?_)
        refine z_if_ne (hx.1 d) (tgt := 322) dL_result_281 (by decide) h (fun h => h) (fun hc h => ?_) (fun hc h => ?_)
        · refine z_sub [] rfl ?_
          exact w_L_result_b322 hx hn hR hq σ7 h d hd
        · refine z_aload_n (hx.1 d) 1 dL_result_284 rfl ?_
          refine z_bipush (hx.1 d) (n := 9) dL_result_285 rfl ?_
          obtain ⟨r10, σ9, h287, h⟩ := z_bind_some h
          refine z_calli (hx.1 d) (As := [.int (zi 9)]) (k := 62) (met_X5_clicks (z_l C) (z_g C) (y_sd hx) h287) (z_lt0 (z_ok_sd (hx.1 d)) (by decide)) (z_kb62 (z_ok_sd (hx.1 d)) _) rfl rfl cv_L_68 (z_room hR ⟨Nat.le_of_ble_eq_true rfl, Nat.le_of_ble_eq_true rfl⟩) ⟨rfl, rfl⟩ rfl rfl (Nat.le_of_ble_eq_true rfl) dL_result_287 ?_
          refine z_if_ne (hx.1 d) (tgt := 322) dL_result_290 (by decide) h (fun h => h) (fun hc h => ?_) (fun hc h => ?_)
          · refine z_sub [] rfl ?_
            exact w_L_result_b322 hx hn hR hq σ9 h d hd
          · refine z_aload_n (hx.1 d) 1 dL_result_293 rfl ?_
            refine z_iconst (hx.1 d) (n := 0) dL_result_294 ?_
            obtain ⟨r12, σ11, h295, h⟩ := z_bind_some h
            refine z_calli (hx.1 d) (As := [.int (zi 0)]) (k := 62) (met_X5_clicks (z_l C) (z_g C) (y_sd hx) h295) (z_lt0 (z_ok_sd (hx.1 d)) (by decide)) (z_kb62 (z_ok_sd (hx.1 d)) _) rfl rfl cv_L_68 (z_room hR ⟨Nat.le_of_ble_eq_true rfl, Nat.le_of_ble_eq_true rfl⟩) ⟨rfl, rfl⟩ rfl rfl (Nat.le_of_ble_eq_true rfl) dL_result_295 ?_
            refine z_iload_n (hx.1 d) 2 dL_result_298 rfl ?_
            refine z_if_ne (hx.1 d) (tgt := 306) dL_result_299 (by decide) h (fun h => h) (fun hc h => ?_) (fun hc h => ?_)
            · refine z_iload_n (hx.1 d) 2 dL_result_306 rfl ?_
              refine z_sub [1, 2] rfl ?_
              exact w_L_result_b307 hx hn hR hq σ11 x1 r12 x1 h d hd
            · refine z_iconst (hx.1 d) (n := 1) dL_result_302 ?_
              refine z_goto (hx.1 d) (tgt := 307) dL_result_303 (by decide) ?_
              refine z_sub [1, 2] rfl ?_
              exact w_L_result_b307 hx hn hR hq σ11 x1 r12 1 h d hd

theorem w_L_result_b217 {C : zC} {E : yE} (hx : y_ok C cL_result RL E) (hn : z_nL C = 9) (hR : z_R C = rm_L_result) {rr : Int × zS} (hq : y_fin C (some .boolean) (z_QI (z_g C) rr.1 rr.2)) (σ : zS) (x1 : Int) (x3 : Int) (x5 : Int) (x6 : Int) (p0 : Int × Int) (v0 : UInt32) (hv0 : z_flt p0 v0) (h : f_L_result_b217 σ x1 x3 x5 x6 p0 = some rr) : y_W C σ 217 [(0, .ref (z_ad (z_g C) 62)), (1, .int (zi x1)), (3, .int (zi x3)), (5, .int (zi x5)), (6, .int (zi x6))] [.float v0] := by
  intro d hd
  unfold f_L_result_b217 at h
  refine y_fstore (hx.1 d) hn (lv' := [(7, .float v0), (0, .ref (z_ad (z_g C) 62)), (1, .int (zi x1)), (3, .int (zi x3)), (5, .int (zi x5)), (6, .int (zi x6))]) dL_result_217 (by decide) rfl ?_
  refine z_aload_n (hx.1 d) 1 dL_result_219 rfl ?_
  refine z_bipush (hx.1 d) (n := 7) dL_result_220 rfl ?_
  obtain ⟨r2, σ1, h222, h⟩ := z_bind_some h
  refine z_calli (hx.1 d) (As := [.int (zi 7)]) (k := 62) (met_X5_setting (z_l C) (z_g C) (y_sd hx) h222) (z_lt0 (z_ok_sd (hx.1 d)) (by decide)) (z_kb62 (z_ok_sd (hx.1 d)) _) rfl rfl cv_L_15 (z_room hR ⟨Nat.le_of_ble_eq_true rfl, Nat.le_of_ble_eq_true rfl⟩) ⟨rfl, rfl⟩ rfl rfl (Nat.le_of_ble_eq_true rfl) dL_result_222 ?_
  refine z_if_ne (hx.1 d) (tgt := 232) dL_result_225 (by decide) h (fun h => h) (fun hc h => ?_) (fun hc h => ?_)
  · refine z_iload (hx.1 d) 4 dL_result_232 rfl ?_
    refine z_i2f (hx.1 d) dL_result_234 ?_
    refine z_aload_n (hx.1 d) 1 dL_result_235 rfl ?_
    refine z_bipush (hx.1 d) (n := 7) dL_result_236 rfl ?_
    obtain ⟨r4, σ3, h238, h⟩ := z_bind_some h
    refine z_calli (hx.1 d) (As := [.int (zi 7)]) (k := 62) (met_X5_setting (z_l C) (z_g C) (y_sd hx) h238) (z_lt0 (z_ok_sd (hx.1 d)) (by decide)) (z_kb62 (z_ok_sd (hx.1 d)) _) rfl rfl cv_L_15 (z_room hR ⟨Nat.le_of_ble_eq_true rfl, Nat.le_of_ble_eq_true rfl⟩) ⟨rfl, rfl⟩ rfl rfl (Nat.le_of_ble_eq_true rfl) dL_result_238 ?_
    refine z_i2f (hx.1 d) dL_result_241 ?_
    refine y_fdiv hx hd dL_result_242 h (fun h w242 d hd hw242 => ?_)
    refine z_sub [1, 2, 3, 5, 0] rfl ?_
    exact w_L_result_b243 hx hn hR hq σ3 x1 x3 x6 p0 v0 hv0 (x5, r4) w242 hw242 h d hd
  · refine y_fconst0 (hx.1 d) dL_result_228 ?_
    refine z_goto (hx.1 d) (tgt := 243) dL_result_229 (by decide) ?_
    refine z_sub [1, 2, 3, 5, 0] rfl ?_
    exact w_L_result_b243 hx hn hR hq σ1 x1 x3 x6 p0 v0 hv0 (0, 0) FP.fconst0 z_flt0 h d hd

theorem w_L_result_b194 {C : zC} {E : yE} (hx : y_ok C cL_result RL E) (hn : z_nL C = 9) (hR : z_R C = rm_L_result) {rr : Int × zS} (hq : y_fin C (some .boolean) (z_QI (z_g C) rr.1 rr.2)) {K167 : zS → Int → Int → Int → Int → Int → Int → Option (Int × zS)} (hK167 : ∀ (σ : zS) (x1 : Int) (x3 : Int) (x4 : Int) (x5 : Int) (x6 : Int) (x7 : Int) , K167 σ x1 x3 x4 x5 x6 x7 = some rr → y_W C σ 167 [(0, .ref (z_ad (z_g C) 62)), (1, .int (zi x1)), (3, .int (zi x3)), (4, .int (zi x4)), (5, .int (zi x5)), (6, .int (zi x6)), (7, .int (zi x7))] []) (σ : zS) (x1 : Int) (x3 : Int) (x4 : Int) (x5 : Int) (x7 : Int) (s0 : Int) (s1 : Int) (h : f_L_result_b194 K167 σ x1 x3 x4 x5 x7 s0 s1 = some rr) : y_W C σ 194 [(0, .ref (z_ad (z_g C) 62)), (1, .int (zi x1)), (3, .int (zi x3)), (4, .int (zi x4)), (5, .int (zi x5)), (7, .int (zi x7))] [.int (zi s1), .int (zi s0)] := by
  intro d hd
  unfold f_L_result_b194 at h
  refine z_iadd (hx.1 d) dL_result_194 ?_
  refine z_istore (hx.1 d) hn (lv' := [(6, .int (zi (s0 + s1))), (0, .ref (z_ad (z_g C) 62)), (1, .int (zi x1)), (3, .int (zi x3)), (4, .int (zi x4)), (5, .int (zi x5)), (7, .int (zi x7))]) dL_result_195 (by decide) rfl ?_
  refine z_iinc (hx.1 d) hn 6 (lv' := [(7, .int (zi (x7 + 1))), (6, .int (zi (s0 + s1))), (0, .ref (z_ad (z_g C) 62)), (1, .int (zi x1)), (3, .int (zi x3)), (4, .int (zi x4)), (5, .int (zi x5))]) dL_result_197 rfl (by decide) rfl ?_
  refine z_goto (hx.1 d) (tgt := 167) dL_result_200 (by decide) ?_
  refine z_sub [2, 3, 4, 5, 6, 1, 0] rfl ?_
  exact hK167 σ x1 x3 x4 x5 (s0 + s1) (x7 + 1) h d hd

theorem w_L_result_b167 {C : zC} {E : yE} (hx : y_ok C cL_result RL E) (hn : z_nL C = 9) (hR : z_R C = rm_L_result) {rr : Int × zS} (hq : y_fin C (some .boolean) (z_QI (z_g C) rr.1 rr.2)) {K167 : zS → Int → Int → Int → Int → Int → Int → Option (Int × zS)} (hK167 : ∀ (σ : zS) (x1 : Int) (x3 : Int) (x4 : Int) (x5 : Int) (x6 : Int) (x7 : Int) , K167 σ x1 x3 x4 x5 x6 x7 = some rr → y_W C σ 167 [(0, .ref (z_ad (z_g C) 62)), (1, .int (zi x1)), (3, .int (zi x3)), (4, .int (zi x4)), (5, .int (zi x5)), (6, .int (zi x6)), (7, .int (zi x7))] []) (σ : zS) (x1 : Int) (x3 : Int) (x4 : Int) (x5 : Int) (x6 : Int) (x7 : Int) (h : f_L_result_b167 K167 σ x1 x3 x4 x5 x6 x7 = some rr) : y_W C σ 167 [(0, .ref (z_ad (z_g C) 62)), (1, .int (zi x1)), (3, .int (zi x3)), (4, .int (zi x4)), (5, .int (zi x5)), (6, .int (zi x6)), (7, .int (zi x7))] [] := by
  intro d hd
  unfold f_L_result_b167 at h
  refine z_iload (hx.1 d) 6 dL_result_167 rfl ?_
  refine z_aload_n (hx.1 d) 0 dL_result_169 rfl ?_
  refine z_bipush (hx.1 d) (n := 7) dL_result_170 rfl ?_
  obtain ⟨r2, σ1, h172, h⟩ := z_bind_some h
  refine z_calli (hx.1 d) (As := [.int (zi 7)]) (k := 62) (met_X5_setting (z_l C) (z_g C) (y_sd hx) h172) (z_lt0 (z_ok_sd (hx.1 d)) (by decide)) (z_kb62 (z_ok_sd (hx.1 d)) _) rfl rfl cv_L_15 (z_room hR ⟨Nat.le_of_ble_eq_true rfl, Nat.le_of_ble_eq_true rfl⟩) ⟨rfl, rfl⟩ rfl rfl (Nat.le_of_ble_eq_true rfl) dL_result_172 ?_
  refine z_icmp_ge (hx.1 d) (tgt := 203) dL_result_175 (by decide) h (fun h => h) (fun hc h => ?_) (fun hc h => ?_)
  · refine z_iload_n (hx.1 d) 1 dL_result_203 rfl ?_
    refine z_if_ne (hx.1 d) (tgt := 211) dL_result_204 (by decide) h (fun h => h) (fun hc h => ?_) (fun hc h => ?_)
    · refine z_iload (hx.1 d) 3 dL_result_211 rfl ?_
      refine z_i2f (hx.1 d) dL_result_213 ?_
      refine z_iload_n (hx.1 d) 1 dL_result_214 rfl ?_
      refine z_i2f (hx.1 d) dL_result_215 ?_
      refine y_fdiv hx hd dL_result_216 h (fun h w216 d hd hw216 => ?_)
      refine z_sub [0, 1, 2, 4, 5] rfl ?_
      exact w_L_result_b217 hx hn hR hq σ1 x1 x3 x5 x6 (x4, x1) w216 hw216 h d hd
    · refine y_fconst0 (hx.1 d) dL_result_207 ?_
      refine z_goto (hx.1 d) (tgt := 217) dL_result_208 (by decide) ?_
      refine z_sub [0, 1, 2, 4, 5] rfl ?_
      exact w_L_result_b217 hx hn hR hq σ1 x1 x3 x5 x6 (0, 0) FP.fconst0 z_flt0 h d hd
  · refine z_iload (hx.1 d) 5 dL_result_178 rfl ?_
    refine z_aload_n (hx.1 d) 0 dL_result_180 rfl ?_
    refine z_iload (hx.1 d) 6 dL_result_181 rfl ?_
    obtain ⟨r4, σ3, h183, h⟩ := z_bind_some h
    refine z_calli (hx.1 d) (As := [.int (zi x7)]) (k := 62) (met_X5_where (z_l C) (z_g C) (y_sd hx) h183) (z_lt0 (z_ok_sd (hx.1 d)) (by decide)) (z_kb62 (z_ok_sd (hx.1 d)) _) rfl rfl cv_L_65 (z_room hR ⟨Nat.le_of_ble_eq_true rfl, Nat.le_of_ble_eq_true rfl⟩) ⟨rfl, rfl⟩ rfl rfl (Nat.le_of_ble_eq_true rfl) dL_result_183 ?_
    refine z_if_ge (hx.1 d) (tgt := 193) dL_result_186 (by decide) h (fun h => h) (fun hc h => ?_) (fun hc h => ?_)
    · refine z_iconst (hx.1 d) (n := 0) dL_result_193 ?_
      refine z_sub [0, 1, 2, 3, 4, 6] rfl ?_
      exact w_L_result_b194 hx hn hR hq hK167 σ3 x1 x3 x4 x5 x7 x6 0 h d hd
    · refine z_iconst (hx.1 d) (n := 1) dL_result_189 ?_
      refine z_goto (hx.1 d) (tgt := 194) dL_result_190 (by decide) ?_
      refine z_sub [0, 1, 2, 3, 4, 6] rfl ?_
      exact w_L_result_b194 hx hn hR hq hK167 σ3 x1 x3 x4 x5 x7 x6 1 h d hd

theorem w_L_result_l167 {C : zC} {E : yE} (hx : y_ok C cL_result RL E) (hn : z_nL C = 9) (hR : z_R C = rm_L_result) {rr : Int × zS} (hq : y_fin C (some .boolean) (z_QI (z_g C) rr.1 rr.2)) : ∀ (n : Nat) (σ : zS) (x1 : Int) (x3 : Int) (x4 : Int) (x5 : Int) (x6 : Int) (x7 : Int) (_ : f_L_result_l167 n σ x1 x3 x4 x5 x6 x7 = some rr), y_W C σ 167 [(0, .ref (z_ad (z_g C) 62)), (1, .int (zi x1)), (3, .int (zi x3)), (4, .int (zi x4)), (5, .int (zi x5)), (6, .int (zi x6)), (7, .int (zi x7))] [] := by
  intro n
  induction n with
  | zero => intro σ x1 x3 x4 x5 x6 x7 h; cases h
  | succ n ih =>
    intro σ x1 x3 x4 x5 x6 x7 h
    exact w_L_result_b167 hx hn hR hq ih σ x1 x3 x4 x5 x6 x7 h
theorem w_L_result_b148 {C : zC} {E : yE} (hx : y_ok C cL_result RL E) (hn : z_nL C = 9) (hR : z_R C = rm_L_result) {rr : Int × zS} (hq : y_fin C (some .boolean) (z_QI (z_g C) rr.1 rr.2)) {K18 : zS → Int → Int → Int → Int → Int → Int → Option (Int × zS)} (hK18 : ∀ (σ : zS) (x1 : Int) (x2 : Int) (x3 : Int) (x4 : Int) (x5 : Int) (x6 : Int) , K18 σ x1 x2 x3 x4 x5 x6 = some rr → y_W C σ 18 [(0, .ref (z_ad (z_g C) 62)), (1, .int (zi x1)), (2, .int (zi x2)), (3, .int (zi x3)), (4, .int (zi x4)), (5, .int (zi x5)), (6, .int (zi x6))] []) (σ : zS) (x1 : Int) (x2 : Int) (x3 : Int) (x4 : Int) (x5 : Int) (x6 : Int) (x8 : Int) (h : f_L_result_b148 K18 σ x1 x2 x3 x4 x5 x6 x8 = some rr) : y_W C σ 148 [(0, .ref (z_ad (z_g C) 62)), (1, .int (zi x1)), (2, .int (zi x2)), (3, .int (zi x3)), (4, .int (zi x4)), (5, .int (zi x5)), (6, .int (zi x6)), (8, .int (zi x8))] [] := by
  intro d hd
  unfold f_L_result_b148 at h
  refine z_iload (hx.1 d) 4 dL_result_148 rfl ?_
  refine z_iload (hx.1 d) 7 dL_result_150 rfl ?_
  refine z_iadd (hx.1 d) dL_result_152 ?_
  refine z_istore (hx.1 d) hn (lv' := [(4, .int (zi (x4 + x8))), (0, .ref (z_ad (z_g C) 62)), (1, .int (zi x1)), (2, .int (zi x2)), (3, .int (zi x3)), (5, .int (zi x5)), (6, .int (zi x6)), (8, .int (zi x8))]) dL_result_153 (by decide) rfl ?_
  refine z_iinc (hx.1 d) hn 6 (lv' := [(6, .int (zi (x6 + 1))), (4, .int (zi (x4 + x8))), (0, .ref (z_ad (z_g C) 62)), (1, .int (zi x1)), (2, .int (zi x2)), (3, .int (zi x3)), (5, .int (zi x5)), (8, .int (zi x8))]) dL_result_155 rfl (by decide) rfl ?_
  refine z_goto (hx.1 d) (tgt := 18) dL_result_158 (by decide) ?_
  refine z_sub [2, 3, 4, 5, 1, 6, 0] rfl ?_
  exact hK18 σ x1 x2 x3 (x4 + x8) x5 (x6 + 1) h d hd

theorem w_L_result_b146 {C : zC} {E : yE} (hx : y_ok C cL_result RL E) (hn : z_nL C = 9) (hR : z_R C = rm_L_result) {rr : Int × zS} (hq : y_fin C (some .boolean) (z_QI (z_g C) rr.1 rr.2)) (σ : zS) (h : f_L_result_b146 σ = some rr) : y_W C σ 146 [] [] := by
  intro d hd
  unfold f_L_result_b146 at h
  refine z_iconst (hx.1 d) (n := 0) dL_result_146 ?_
  cases h
  exact y_zret hx hd (by decide) hq dL_result_147

theorem w_L_result_b91 {C : zC} {E : yE} (hx : y_ok C cL_result RL E) (hn : z_nL C = 9) (hR : z_R C = rm_L_result) {rr : Int × zS} (hq : y_fin C (some .boolean) (z_QI (z_g C) rr.1 rr.2)) (σ : zS) (h : f_L_result_b91 σ = some rr) : y_W C σ 91 [] [] := by
  intro d hd
  unfold f_L_result_b91 at h
  refine z_iconst (hx.1 d) (n := 0) dL_result_91 ?_
  cases h
  exact y_zret hx hd (by decide) hq dL_result_92

theorem w_L_result_b18 {C : zC} {E : yE} (hx : y_ok C cL_result RL E) (hn : z_nL C = 9) (hR : z_R C = rm_L_result) {rr : Int × zS} (hq : y_fin C (some .boolean) (z_QI (z_g C) rr.1 rr.2)) {K18 : zS → Int → Int → Int → Int → Int → Int → Option (Int × zS)} (hK18 : ∀ (σ : zS) (x1 : Int) (x2 : Int) (x3 : Int) (x4 : Int) (x5 : Int) (x6 : Int) , K18 σ x1 x2 x3 x4 x5 x6 = some rr → y_W C σ 18 [(0, .ref (z_ad (z_g C) 62)), (1, .int (zi x1)), (2, .int (zi x2)), (3, .int (zi x3)), (4, .int (zi x4)), (5, .int (zi x5)), (6, .int (zi x6))] []) (σ : zS) (x1 : Int) (x2 : Int) (x3 : Int) (x4 : Int) (x5 : Int) (x6 : Int) (h : f_L_result_b18 K18 σ x1 x2 x3 x4 x5 x6 = some rr) : y_W C σ 18 [(0, .ref (z_ad (z_g C) 62)), (1, .int (zi x1)), (2, .int (zi x2)), (3, .int (zi x3)), (4, .int (zi x4)), (5, .int (zi x5)), (6, .int (zi x6))] [] := by
  intro d hd
  unfold f_L_result_b18 at h
  refine z_iload (hx.1 d) 6 dL_result_18 rfl ?_
  refine z_iload_n (hx.1 d) 1 dL_result_20 rfl ?_
  refine z_icmp_ge (hx.1 d) (tgt := 161) dL_result_21 (by decide) h (fun h => h) (fun hc h => ?_) (fun hc h => ?_)
  · refine z_iconst (hx.1 d) (n := 0) dL_result_161 ?_
    refine z_istore (hx.1 d) hn (lv' := [(6, .int (zi 0)), (0, .ref (z_ad (z_g C) 62)), (1, .int (zi x1)), (2, .int (zi x2)), (3, .int (zi x3)), (4, .int (zi x4)), (5, .int (zi x5))]) dL_result_162 (by decide) rfl ?_
    refine z_iconst (hx.1 d) (n := 0) dL_result_164 ?_
    refine z_istore (hx.1 d) hn (lv' := [(7, .int (zi 0)), (6, .int (zi 0)), (0, .ref (z_ad (z_g C) 62)), (1, .int (zi x1)), (2, .int (zi x2)), (3, .int (zi x3)), (4, .int (zi x4)), (5, .int (zi x5))]) dL_result_165 (by decide) rfl ?_
    refine z_sub [2, 3, 5, 6, 7, 1, 0] rfl ?_
    exact w_L_result_l167 hx hn hR hq z_fuel σ x1 x3 x4 x5 0 0 h d hd
  · refine z_aload_n (hx.1 d) 0 dL_result_24 rfl ?_
    refine z_iload (hx.1 d) 6 dL_result_25 rfl ?_
    refine z_iconst (hx.1 d) (n := 0) dL_result_27 ?_
    obtain ⟨r2, σ1, h28, h⟩ := z_bind_some h
    refine z_calli (hx.1 d) (As := [.int (zi x6), .int (zi 0)]) (k := 62) (met_X5_heard (z_l C) (z_g C) (y_sd hx) h28) (z_lt0 (z_ok_sd (hx.1 d)) (by decide)) (z_kb62 (z_ok_sd (hx.1 d)) _) rfl rfl cv_L_62 (z_room hR ⟨Nat.le_of_ble_eq_true rfl, Nat.le_of_ble_eq_true rfl⟩) ⟨rfl, rfl⟩ rfl rfl (Nat.le_of_ble_eq_true rfl) dL_result_28 ?_
    refine z_istore (hx.1 d) hn (lv' := [(7, .int (zi r2)), (0, .ref (z_ad (z_g C) 62)), (1, .int (zi x1)), (2, .int (zi x2)), (3, .int (zi x3)), (4, .int (zi x4)), (5, .int (zi x5)), (6, .int (zi x6))]) dL_result_31 (by decide) rfl ?_
    refine z_aload_n (hx.1 d) 1 dL_result_33 rfl ?_
    refine z_iload (hx.1 d) 7 dL_result_34 rfl ?_
    refine z_iconst (hx.1 d) (n := 1) dL_result_36 ?_
    obtain ⟨r4, σ3, h37, h⟩ := z_bind_some h
    refine z_calli (hx.1 d) (As := [.int (zi x6), .int (zi 1)]) (k := 62) (met_X5_heard (z_l C) (z_g C) (y_sd hx) h37) (z_lt0 (z_ok_sd (hx.1 d)) (by decide)) (z_kb62 (z_ok_sd (hx.1 d)) _) rfl rfl cv_L_62 (z_room hR ⟨Nat.le_of_ble_eq_true rfl, Nat.le_of_ble_eq_true rfl⟩) ⟨rfl, rfl⟩ rfl rfl (Nat.le_of_ble_eq_true rfl) dL_result_37 ?_
    refine z_istore (hx.1 d) hn (lv' := [(8, .int (zi r4)), (7, .int (zi r2)), (0, .ref (z_ad (z_g C) 62)), (1, .int (zi x1)), (2, .int (zi x2)), (3, .int (zi x3)), (4, .int (zi x4)), (5, .int (zi x5)), (6, .int (zi x6))]) dL_result_40 (by decide) rfl ?_
    refine z_iload (hx.1 d) 1 dL_result_42 rfl ?_
    refine z_sipush (hx.1 d) (n := 1000) dL_result_44 rfl ?_
    refine z_icmp_ge (hx.1 d) (tgt := 104) dL_result_47 (by decide) h (fun h => ⟨h, by decide⟩) (fun hc h => ?_) (fun hc h => ?_)
    · refine z_iinc (hx.1 d) hn 5 (lv' := [(3, .int (zi (x3 + 1))), (8, .int (zi r4)), (7, .int (zi r2)), (0, .ref (z_ad (z_g C) 62)), (1, .int (zi x1)), (2, .int (zi x2)), (4, .int (zi x4)), (5, .int (zi x5)), (6, .int (zi x6))]) dL_result_104 rfl (by decide) rfl ?_
      refine z_iload (hx.1 d) 2 dL_result_107 rfl ?_
      refine z_sipush (hx.1 d) (n := 2000) dL_result_109 rfl ?_
      refine z_icmp_ne (hx.1 d) (tgt := 123) dL_result_112 (by decide) h (fun h => ⟨h, by decide⟩) (fun hc h => ?_) (fun hc h => ?_)
      · refine z_iload (hx.1 d) 2 dL_result_123 rfl ?_
        refine z_sipush (hx.1 d) (n := 1199) dL_result_125 rfl ?_
        refine z_icmp_gt (hx.1 d) (tgt := 146) dL_result_128 (by decide) h (fun h => ⟨h, by decide⟩) (fun hc h => ?_) (fun hc h => ?_)
        · refine z_sub [] rfl ?_
          exact w_L_result_b146 hx hn hR hq σ3 h d hd
        · refine z_iload (hx.1 d) 1 dL_result_131 rfl ?_
          refine z_aload_n (hx.1 d) 3 dL_result_133 rfl ?_
          refine z_iload (hx.1 d) 2 dL_result_134 rfl ?_
          refine z_sipush (hx.1 d) (n := 1000) dL_result_136 rfl ?_
          refine z_isub (hx.1 d) dL_result_139 ?_
          obtain ⟨r6, σ5, h140, h⟩ := z_bind_some h
          refine z_calli (hx.1 d) (As := [.int (zi (r2 - 1000))]) (k := 62) (met_X5_level (z_l C) (z_g C) (y_sd hx) h140) (z_lt0 (z_ok_sd (hx.1 d)) (by decide)) (z_kb62 (z_ok_sd (hx.1 d)) _) rfl rfl cv_L_43 (z_room hR ⟨Nat.le_of_ble_eq_true rfl, Nat.le_of_ble_eq_true rfl⟩) ⟨rfl, rfl⟩ rfl rfl (Nat.le_of_ble_eq_true rfl) dL_result_140 ?_
          refine z_icmp_eq (hx.1 d) (tgt := 148) dL_result_143 (by decide) h (fun h => h) (fun hc h => ?_) (fun hc h => ?_)
          · refine z_sub [3, 4, 5, 0, 6, 7, 8, 1] rfl ?_
            exact w_L_result_b148 hx hn hR hq hK18 σ5 x1 x2 (x3 + 1) x4 x5 x6 r4 h d hd
          · refine z_sub [] rfl ?_
            exact w_L_result_b146 hx hn hR hq σ5 h d hd
      · refine z_iload (hx.1 d) 1 dL_result_115 rfl ?_
        refine z_if_eq (hx.1 d) (tgt := 148) dL_result_117 (by decide) h (fun h => h) (fun hc h => ?_) (fun hc h => ?_)
        · refine z_sub [3, 4, 5, 0, 6, 7, 8, 1] rfl ?_
          exact w_L_result_b148 hx hn hR hq hK18 σ3 x1 x2 (x3 + 1) x4 x5 x6 r4 h d hd
        · refine z_goto (hx.1 d) (tgt := 146) dL_result_120 (by decide) ?_
          refine z_sub [] rfl ?_
          exact w_L_result_b146 hx hn hR hq σ3 h d hd
    · refine z_iload (hx.1 d) 1 dL_result_50 rfl ?_
      refine z_iload_n (hx.1 d) 4 dL_result_52 rfl ?_
      refine z_icmp_lt (hx.1 d) (tgt := 91) dL_result_53 (by decide) h (fun h => h) (fun hc h => ?_) (fun hc h => ?_)
      · refine z_sub [] rfl ?_
        exact w_L_result_b91 hx hn hR hq σ3 h d hd
      · refine z_aload_n (hx.1 d) 2 dL_result_56 rfl ?_
        refine z_iload (hx.1 d) 1 dL_result_57 rfl ?_
        obtain ⟨r8, σ7, h59, h⟩ := z_bind_some h
        refine z_calli (hx.1 d) (As := [.int (zi r2)]) (k := 62) (met_X5_where (z_l C) (z_g C) (y_sd hx) h59) (z_lt0 (z_ok_sd (hx.1 d)) (by decide)) (z_kb62 (z_ok_sd (hx.1 d)) _) rfl rfl cv_L_65 (z_room hR ⟨Nat.le_of_ble_eq_true rfl, Nat.le_of_ble_eq_true rfl⟩) ⟨rfl, rfl⟩ rfl rfl (Nat.le_of_ble_eq_true rfl) dL_result_59 ?_
        refine z_iload (hx.1 d) 8 dL_result_62 rfl ?_
        refine z_icmp_ne (hx.1 d) (tgt := 91) dL_result_64 (by decide) h (fun h => h) (fun hc h => ?_) (fun hc h => ?_)
        · refine z_sub [] rfl ?_
          exact w_L_result_b91 hx hn hR hq σ7 h d hd
        · refine z_iload (hx.1 d) 0 dL_result_67 rfl ?_
          refine z_aload_n (hx.1 d) 2 dL_result_69 rfl ?_
          refine z_iload (hx.1 d) 1 dL_result_70 rfl ?_
          obtain ⟨r10, σ9, h72, h⟩ := z_bind_some h
          refine z_calli (hx.1 d) (As := [.int (zi r2)]) (k := 62) (met_X5_level (z_l C) (z_g C) (y_sd hx) h72) (z_lt0 (z_ok_sd (hx.1 d)) (by decide)) (z_kb62 (z_ok_sd (hx.1 d)) _) rfl rfl cv_L_43 (z_room hR ⟨Nat.le_of_ble_eq_true rfl, Nat.le_of_ble_eq_true rfl⟩) ⟨rfl, rfl⟩ rfl rfl (Nat.le_of_ble_eq_true rfl) dL_result_72 ?_
          refine z_icmp_gt (hx.1 d) (tgt := 91) dL_result_75 (by decide) h (fun h => h) (fun hc h => ?_) (fun hc h => ?_)
          · refine z_sub [] rfl ?_
            exact w_L_result_b91 hx hn hR hq σ9 h d hd
          · refine z_iload (hx.1 d) 0 dL_result_78 rfl ?_
            refine z_aload_n (hx.1 d) 2 dL_result_80 rfl ?_
            refine z_iload (hx.1 d) 1 dL_result_81 rfl ?_
            obtain ⟨r12, σ11, h83, h⟩ := z_bind_some h
            refine z_calli (hx.1 d) (As := [.int (zi r2)]) (k := 62) (met_X5_level (z_l C) (z_g C) (y_sd hx) h83) (z_lt0 (z_ok_sd (hx.1 d)) (by decide)) (z_kb62 (z_ok_sd (hx.1 d)) _) rfl rfl cv_L_43 (z_room hR ⟨Nat.le_of_ble_eq_true rfl, Nat.le_of_ble_eq_true rfl⟩) ⟨rfl, rfl⟩ rfl rfl (Nat.le_of_ble_eq_true rfl) dL_result_83 ?_
            refine z_iconst (hx.1 d) (n := 2) dL_result_86 ?_
            refine z_idiv (hx.1 d) dL_result_87 h (fun h => ?_)
            refine z_icmp_ge (hx.1 d) (tgt := 93) dL_result_88 (by decide) h (fun h => h) (fun hc h => ?_) (fun hc h => ?_)
            · refine z_iload (hx.1 d) 1 dL_result_93 rfl ?_
              refine z_iconst (hx.1 d) (n := 1) dL_result_95 ?_
              refine z_iadd (hx.1 d) dL_result_96 ?_
              refine z_istore_n (hx.1 d) hn (lv' := [(2, .int (zi (r2 + 1))), (8, .int (zi r4)), (7, .int (zi r2)), (0, .ref (z_ad (z_g C) 62)), (1, .int (zi x1)), (3, .int (zi x3)), (4, .int (zi x4)), (5, .int (zi x5)), (6, .int (zi x6))]) dL_result_97 (by decide) rfl ?_
              refine z_iinc (hx.1 d) hn 7 (lv' := [(5, .int (zi (x5 + 1))), (2, .int (zi (r2 + 1))), (8, .int (zi r4)), (7, .int (zi r2)), (0, .ref (z_ad (z_g C) 62)), (1, .int (zi x1)), (3, .int (zi x3)), (4, .int (zi x4)), (6, .int (zi x6))]) dL_result_98 rfl (by decide) rfl ?_
              refine z_goto (hx.1 d) (tgt := 148) dL_result_101 (by decide) ?_
              refine z_sub [4, 5, 1, 6, 7, 0, 8, 2] rfl ?_
              exact w_L_result_b148 hx hn hR hq hK18 σ11 x1 (r2 + 1) x3 x4 (x5 + 1) x6 r4 h d hd
            · refine z_sub [] rfl ?_
              exact w_L_result_b91 hx hn hR hq σ11 h d hd

theorem w_L_result_l18 {C : zC} {E : yE} (hx : y_ok C cL_result RL E) (hn : z_nL C = 9) (hR : z_R C = rm_L_result) {rr : Int × zS} (hq : y_fin C (some .boolean) (z_QI (z_g C) rr.1 rr.2)) : ∀ (n : Nat) (σ : zS) (x1 : Int) (x2 : Int) (x3 : Int) (x4 : Int) (x5 : Int) (x6 : Int) (_ : f_L_result_l18 n σ x1 x2 x3 x4 x5 x6 = some rr), y_W C σ 18 [(0, .ref (z_ad (z_g C) 62)), (1, .int (zi x1)), (2, .int (zi x2)), (3, .int (zi x3)), (4, .int (zi x4)), (5, .int (zi x5)), (6, .int (zi x6))] [] := by
  intro n
  induction n with
  | zero => intro σ x1 x2 x3 x4 x5 x6 h; cases h
  | succ n ih =>
    intro σ x1 x2 x3 x4 x5 x6 h
    exact w_L_result_b18 hx hn hR hq ih σ x1 x2 x3 x4 x5 x6 h
theorem w_L_result {C : zC} {E : yE} (hx : y_ok C cL_result RL E) (hn : z_nL C = 9) (hR : z_R C = rm_L_result) {rr : Int × zS} (hq : y_fin C (some .boolean) (z_QI (z_g C) rr.1 rr.2)) (σ : zS) (h : f_L_result σ = some rr) : y_W C σ 0 [(0, .ref (z_ad (z_g C) 62))] [] := by
  intro d hd
  unfold f_L_result at h
  refine z_aload_n (hx.1 d) 0 dL_result_0 rfl ?_
  obtain ⟨r2, σ1, h1, h⟩ := z_bind_some h
  refine z_calli (hx.1 d) (As := []) (k := 62) (met_X5_length (z_l C) (z_g C) (y_sd hx) h1) (z_lt0 (z_ok_sd (hx.1 d)) (by decide)) (z_kb62 (z_ok_sd (hx.1 d)) _) rfl rfl cv_L_59 (z_room hR ⟨Nat.le_of_ble_eq_true rfl, Nat.le_of_ble_eq_true rfl⟩) ⟨rfl, rfl⟩ rfl rfl (Nat.le_of_ble_eq_true rfl) dL_result_1 ?_
  refine z_istore_n (hx.1 d) hn (lv' := [(1, .int (zi r2)), (0, .ref (z_ad (z_g C) 62))]) dL_result_4 (by decide) rfl ?_
  refine z_iconst (hx.1 d) (n := 0) dL_result_5 ?_
  refine z_istore_n (hx.1 d) hn (lv' := [(2, .int (zi 0)), (1, .int (zi r2)), (0, .ref (z_ad (z_g C) 62))]) dL_result_6 (by decide) rfl ?_
  refine z_iconst (hx.1 d) (n := 0) dL_result_7 ?_
  refine z_istore_n (hx.1 d) hn (lv' := [(3, .int (zi 0)), (2, .int (zi 0)), (1, .int (zi r2)), (0, .ref (z_ad (z_g C) 62))]) dL_result_8 (by decide) rfl ?_
  refine z_iconst (hx.1 d) (n := 0) dL_result_9 ?_
  refine z_istore (hx.1 d) hn (lv' := [(4, .int (zi 0)), (3, .int (zi 0)), (2, .int (zi 0)), (1, .int (zi r2)), (0, .ref (z_ad (z_g C) 62))]) dL_result_10 (by decide) rfl ?_
  refine z_iconst (hx.1 d) (n := 0) dL_result_12 ?_
  refine z_istore (hx.1 d) hn (lv' := [(5, .int (zi 0)), (4, .int (zi 0)), (3, .int (zi 0)), (2, .int (zi 0)), (1, .int (zi r2)), (0, .ref (z_ad (z_g C) 62))]) dL_result_13 (by decide) rfl ?_
  refine z_iconst (hx.1 d) (n := 0) dL_result_15 ?_
  refine z_istore (hx.1 d) hn (lv' := [(6, .int (zi 0)), (5, .int (zi 0)), (4, .int (zi 0)), (3, .int (zi 0)), (2, .int (zi 0)), (1, .int (zi r2)), (0, .ref (z_ad (z_g C) 62))]) dL_result_16 (by decide) rfl ?_
  refine z_sub [6, 5, 4, 3, 2, 1, 0] rfl ?_
  exact w_L_result_l18 hx hn hR hq z_fuel σ1 r2 0 0 0 0 0 h d hd

theorem met_L_result (l : Launch) (g : zG) (E : yE) (hg : g.1 = 0) {σ : zS} {rr : Int × zS} (h : f_L_result σ = some rr) : y_Met l yL_result cL_result 9 (some .boolean) rm_L_result g E [.ref (z_ad (g) 62)] σ (z_QI g rr.1 rr.2) := by
  refine y_enter (own := RL) (lv0 := [(0, .ref (z_ad (g) 62))]) (by decide) rfl (Nat.le_of_ble_eq_true rfl) hg rfl (fun C hx hl hgC hR hn hq => ?_)
  subst hgC
  intro d hd
  refine z_sub [0] rfl ?_
  exact w_L_result hx hn hR hq σ h d hd
