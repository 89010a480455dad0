/-! the law's cases, by program -/
abbrev l_lv (K : LC) (i : Int) : List (Nat × Value) := [(3, .int (zi i)), (2, .ref (z_ad (l_M K) 0)), (1, .ref (z_ad (l_C K) 62)), (0, .ref (l_b K))]
theorem l_hC {K : LC} (hx : l_ok K) : (l_C K).1 = 0 := by
  obtain ⟨p, l, e, s, m, b, below, meth, c, L, xs, gC, gM, gs⟩ := K
  exact hx.2.2.2.2.2.2.2.2.2.2.1
theorem l_hM {K : LC} (hx : l_ok K) : (l_M K).1 = 1 := by
  obtain ⟨p, l, e, s, m, b, below, meth, c, L, xs, gC, gM, gs⟩ := K
  exact hx.2.2.2.2.2.2.2.2.2.2.2.1
theorem l_cmp0 (x : Int64) : lg_cmp x x = 0 := by
  unfold lg_cmp
  simp
theorem law_c0 {K : LC} {d0 : Drawn} {σ τ : zS} (hx : l_ok K) {i : Int} (h0 : 0 ≤ i) (h1 : i + 5 ≤ (l_L K : Int)) {A : zA} (hA : a_ok A) (hC : a_C σ A) (hM : a_M τ A) (kk : ∀ (d1 : Drawn) (σ1 τ1 : zS) (A1 : zA), a_ok A1 → a_C σ1 A1 → a_M τ1 A1 → l_W K d1 σ1 τ1 827 (l_lv K i) []) : l_W K d0 σ τ 152 (l_lv K i) [] := by
  obtain ⟨r, σ1, τ1, A1, e1, e2, k1, k2, k3⟩ := o_type (x := l_v K (i + 1)) hA hC hM l_v_zr
  refine l_aload_n hx 2 (i := 1) dL_law_152 rfl ?_
  refine l_arg hx 3 0 rfl rfl h0 h1 (j := 1) (by decide) dL_law_153 dL_law_154 dL_law_155 dL_law_156 dL_law_157 ?_
  refine l_iC hx (As := [.int (zi (l_v K (i + 1)))]) (met_X5_type (l_l K) (l_C K) (l_hC hx) e1) rfl cv_L_13 ⟨Nat.le_of_ble_eq_true rfl, Nat.le_of_ble_eq_true rfl⟩ ⟨rfl, rfl⟩ rfl rfl (Nat.le_of_ble_eq_true rfl) dL_law_158 ?_
  refine l_aload_n hx 1 (i := 2) dL_law_161 rfl ?_
  refine l_arg hx 3 0 rfl rfl h0 h1 (j := 1) (by decide) dL_law_162 dL_law_163 dL_law_164 dL_law_165 dL_law_166 ?_
  refine l_iM hx (As := [.int (zi (l_v K (i + 1)))]) (met_X6_type (l_l K) (l_M K) (l_hM hx) e2) rfl cv_L_17 ⟨Nat.le_of_ble_eq_true rfl, Nat.le_of_ble_eq_true rfl⟩ ⟨rfl, rfl⟩ rfl rfl (Nat.le_of_ble_eq_true rfl) dL_law_167 ?_
  refine l_eq hx (tgt := 827) dL_law_170 (by decide) ?_
  exact kk d0 σ1 τ1 A1 k1 k2 k3
theorem law_c1 {K : LC} {d0 : Drawn} {σ τ : zS} (hx : l_ok K) {i : Int} (h0 : 0 ≤ i) (h1 : i + 5 ≤ (l_L K : Int)) {A : zA} (hA : a_ok A) (hC : a_C σ A) (hM : a_M τ A) (kk : ∀ (d1 : Drawn) (σ1 τ1 : zS) (A1 : zA), a_ok A1 → a_C σ1 A1 → a_M τ1 A1 → l_W K d1 σ1 τ1 827 (l_lv K i) []) : l_W K d0 σ τ 175 (l_lv K i) [] := by
  obtain ⟨r, σ1, τ1, A1, e1, e2, k1, k2, k3⟩ := o_clear  hA hC hM 
  refine l_aload_n hx 2 (i := 1) dL_law_175 rfl ?_
  refine l_iC hx (As := []) (met_X5_clear (l_l K) (l_C K) (l_hC hx) e1) rfl cv_L_18 ⟨Nat.le_of_ble_eq_true rfl, Nat.le_of_ble_eq_true rfl⟩ ⟨rfl, rfl⟩ rfl rfl (Nat.le_of_ble_eq_true rfl) dL_law_176 ?_
  refine l_aload_n hx 1 (i := 2) dL_law_179 rfl ?_
  refine l_iM hx (As := []) (met_X6_clear (l_l K) (l_M K) (l_hM hx) e2) rfl cv_L_22 ⟨Nat.le_of_ble_eq_true rfl, Nat.le_of_ble_eq_true rfl⟩ ⟨rfl, rfl⟩ rfl rfl (Nat.le_of_ble_eq_true rfl) dL_law_180 ?_
  refine l_eq hx (tgt := 827) dL_law_183 (by decide) ?_
  exact kk d0 σ1 τ1 A1 k1 k2 k3
theorem law_c2 {K : LC} {d0 : Drawn} {σ τ : zS} (hx : l_ok K) {i : Int} (h0 : 0 ≤ i) (h1 : i + 5 ≤ (l_L K : Int)) {A : zA} (hA : a_ok A) (hC : a_C σ A) (hM : a_M τ A) (kk : ∀ (d1 : Drawn) (σ1 τ1 : zS) (A1 : zA), a_ok A1 → a_C σ1 A1 → a_M τ1 A1 → l_W K d1 σ1 τ1 827 (l_lv K i) []) : l_W K d0 σ τ 188 (l_lv K i) [] := by
  obtain ⟨r, σ1, τ1, A1, e1, e2, k1, k2, k3⟩ := o_read  hA hC hM 
  refine l_aload_n hx 2 (i := 1) dL_law_188 rfl ?_
  refine l_iC hx (As := []) (met_X5_read (l_l K) (l_C K) (l_hC hx) e1) rfl cv_L_23 ⟨Nat.le_of_ble_eq_true rfl, Nat.le_of_ble_eq_true rfl⟩ ⟨rfl, rfl⟩ rfl rfl (Nat.le_of_ble_eq_true rfl) dL_law_189 ?_
  refine l_aload_n hx 1 (i := 2) dL_law_192 rfl ?_
  refine l_iM hx (As := []) (met_X6_read (l_l K) (l_M K) (l_hM hx) e2) rfl cv_L_26 ⟨Nat.le_of_ble_eq_true rfl, Nat.le_of_ble_eq_true rfl⟩ ⟨rfl, rfl⟩ rfl rfl (Nat.le_of_ble_eq_true rfl) dL_law_193 ?_
  refine l_eq hx (tgt := 827) dL_law_196 (by decide) ?_
  exact kk d0 σ1 τ1 A1 k1 k2 k3
theorem law_c3 {K : LC} {d0 : Drawn} {σ τ : zS} (hx : l_ok K) {i : Int} (h0 : 0 ≤ i) (h1 : i + 5 ≤ (l_L K : Int)) {A : zA} (hA : a_ok A) (hC : a_C σ A) (hM : a_M τ A) (kk : ∀ (d1 : Drawn) (σ1 τ1 : zS) (A1 : zA), a_ok A1 → a_C σ1 A1 → a_M τ1 A1 → l_W K d1 σ1 τ1 827 (l_lv K i) []) : l_W K d0 σ τ 201 (l_lv K i) [] := by
  obtain ⟨r, σ1, τ1, A1, e1, e2, k1, k2, k3⟩ := o_append (x := l_v K (i + 1)) (y := l_v K (i + 2)) hA hC hM l_v_zr l_v_zr
  refine l_aload_n hx 2 (i := 1) dL_law_201 rfl ?_
  refine l_arg hx 3 0 rfl rfl h0 h1 (j := 1) (by decide) dL_law_202 dL_law_203 dL_law_204 dL_law_205 dL_law_206 ?_
  refine l_arg hx 3 0 rfl rfl h0 h1 (j := 2) (by decide) dL_law_207 dL_law_208 dL_law_209 dL_law_210 dL_law_211 ?_
  refine l_iC hx (As := [.int (zi (l_v K (i + 1))), .int (zi (l_v K (i + 2)))]) (met_X5_append (l_l K) (l_C K) (l_hC hx) e1) rfl cv_L_27 ⟨Nat.le_of_ble_eq_true rfl, Nat.le_of_ble_eq_true rfl⟩ ⟨rfl, rfl⟩ rfl rfl (Nat.le_of_ble_eq_true rfl) dL_law_212 ?_
  refine l_aload_n hx 1 (i := 2) dL_law_215 rfl ?_
  refine l_arg hx 3 0 rfl rfl h0 h1 (j := 1) (by decide) dL_law_216 dL_law_217 dL_law_218 dL_law_219 dL_law_220 ?_
  refine l_arg hx 3 0 rfl rfl h0 h1 (j := 2) (by decide) dL_law_221 dL_law_222 dL_law_223 dL_law_224 dL_law_225 ?_
  refine l_iM hx (As := [.int (zi (l_v K (i + 1))), .int (zi (l_v K (i + 2)))]) (met_X6_append (l_l K) (l_M K) (l_hM hx) e2) rfl cv_L_31 ⟨Nat.le_of_ble_eq_true rfl, Nat.le_of_ble_eq_true rfl⟩ ⟨rfl, rfl⟩ rfl rfl (Nat.le_of_ble_eq_true rfl) dL_law_226 ?_
  refine l_eq hx (tgt := 827) dL_law_229 (by decide) ?_
  exact kk d0 σ1 τ1 A1 k1 k2 k3
theorem law_c4 {K : LC} {d0 : Drawn} {σ τ : zS} (hx : l_ok K) {i : Int} (h0 : 0 ≤ i) (h1 : i + 5 ≤ (l_L K : Int)) {A : zA} (hA : a_ok A) (hC : a_C σ A) (hM : a_M τ A) (kk : ∀ (d1 : Drawn) (σ1 τ1 : zS) (A1 : zA), a_ok A1 → a_C σ1 A1 → a_M τ1 A1 → l_W K d1 σ1 τ1 827 (l_lv K i) []) : l_W K d0 σ τ 234 (l_lv K i) [] := by
  obtain ⟨r, σ1, τ1, A1, e1, e2, k1, k2, k3⟩ := o_babble (x := l_v K (i + 1)) (y := l_v K (i + 2)) hA hC hM l_v_zr
  refine l_aload_n hx 2 (i := 1) dL_law_234 rfl ?_
  refine l_arg hx 3 0 rfl rfl h0 h1 (j := 1) (by decide) dL_law_235 dL_law_236 dL_law_237 dL_law_238 dL_law_239 ?_
  refine l_arg hx 3 0 rfl rfl h0 h1 (j := 2) (by decide) dL_law_240 dL_law_241 dL_law_242 dL_law_243 dL_law_244 ?_
  refine l_iC hx (As := [.int (zi (l_v K (i + 1))), .int (zi (l_v K (i + 2)))]) (met_X5_babble (l_l K) (l_C K) (l_hC hx) e1) rfl cv_L_32 ⟨Nat.le_of_ble_eq_true rfl, Nat.le_of_ble_eq_true rfl⟩ ⟨rfl, rfl⟩ rfl rfl (Nat.le_of_ble_eq_true rfl) dL_law_245 ?_
  refine l_aload_n hx 1 (i := 2) dL_law_248 rfl ?_
  refine l_arg hx 3 0 rfl rfl h0 h1 (j := 1) (by decide) dL_law_249 dL_law_250 dL_law_251 dL_law_252 dL_law_253 ?_
  refine l_arg hx 3 0 rfl rfl h0 h1 (j := 2) (by decide) dL_law_254 dL_law_255 dL_law_256 dL_law_257 dL_law_258 ?_
  refine l_iM hx (As := [.int (zi (l_v K (i + 1))), .int (zi (l_v K (i + 2)))]) (met_X6_babble (l_l K) (l_M K) (l_hM hx) e2) rfl cv_L_35 ⟨Nat.le_of_ble_eq_true rfl, Nat.le_of_ble_eq_true rfl⟩ ⟨rfl, rfl⟩ rfl rfl (Nat.le_of_ble_eq_true rfl) dL_law_259 ?_
  refine l_eq hx (tgt := 827) dL_law_262 (by decide) ?_
  exact kk d0 σ1 τ1 A1 k1 k2 k3
theorem law_c5 {K : LC} {d0 : Drawn} {σ τ : zS} (hx : l_ok K) {i : Int} (h0 : 0 ≤ i) (h1 : i + 5 ≤ (l_L K : Int)) {A : zA} (hA : a_ok A) (hC : a_C σ A) (hM : a_M τ A) (kk : ∀ (d1 : Drawn) (σ1 τ1 : zS) (A1 : zA), a_ok A1 → a_C σ1 A1 → a_M τ1 A1 → l_W K d1 σ1 τ1 827 (l_lv K i) []) : l_W K d0 σ τ 267 (l_lv K i) [] := by
  obtain ⟨r, σ1, τ1, A1, e1, e2, k1, k2, k3⟩ := o_mark (k := l_v K (i + 1)) (f := l_v K (i + 2)) (t := l_v K (i + 3)) (d := l_v K (i + 4)) hA hC hM l_v_zr l_v_zr l_v_zr l_v_zr
  refine l_aload_n hx 2 (i := 1) dL_law_267 rfl ?_
  refine l_arg hx 3 0 rfl rfl h0 h1 (j := 1) (by decide) dL_law_268 dL_law_269 dL_law_270 dL_law_271 dL_law_272 ?_
  refine l_arg hx 3 0 rfl rfl h0 h1 (j := 2) (by decide) dL_law_273 dL_law_274 dL_law_275 dL_law_276 dL_law_277 ?_
  refine l_arg hx 3 0 rfl rfl h0 h1 (j := 3) (by decide) dL_law_278 dL_law_279 dL_law_280 dL_law_281 dL_law_282 ?_
  refine l_arg hx 3 0 rfl rfl h0 h1 (j := 4) (by decide) dL_law_283 dL_law_284 dL_law_285 dL_law_286 dL_law_287 ?_
  refine l_iC hx (As := [.int (zi (l_v K (i + 1))), .int (zi (l_v K (i + 2))), .int (zi (l_v K (i + 3))), .int (zi (l_v K (i + 4)))]) (met_X5_mark (l_l K) (l_C K) (l_hC hx) e1) rfl cv_L_36 ⟨Nat.le_of_ble_eq_true rfl, Nat.le_of_ble_eq_true rfl⟩ ⟨rfl, rfl⟩ rfl rfl (Nat.le_of_ble_eq_true rfl) dL_law_288 ?_
  refine l_aload_n hx 1 (i := 2) dL_law_291 rfl ?_
  refine l_arg hx 3 0 rfl rfl h0 h1 (j := 1) (by decide) dL_law_292 dL_law_293 dL_law_294 dL_law_295 dL_law_296 ?_
  refine l_arg hx 3 0 rfl rfl h0 h1 (j := 2) (by decide) dL_law_297 dL_law_298 dL_law_299 dL_law_300 dL_law_301 ?_
  refine l_arg hx 3 0 rfl rfl h0 h1 (j := 3) (by decide) dL_law_302 dL_law_303 dL_law_304 dL_law_305 dL_law_306 ?_
  refine l_arg hx 3 0 rfl rfl h0 h1 (j := 4) (by decide) dL_law_307 dL_law_308 dL_law_309 dL_law_310 dL_law_311 ?_
  refine l_iM hx (As := [.int (zi (l_v K (i + 1))), .int (zi (l_v K (i + 2))), .int (zi (l_v K (i + 3))), .int (zi (l_v K (i + 4)))]) (met_X6_mark (l_l K) (l_M K) (l_hM hx) e2) rfl cv_L_40 ⟨Nat.le_of_ble_eq_true rfl, Nat.le_of_ble_eq_true rfl⟩ ⟨rfl, rfl⟩ rfl rfl (Nat.le_of_ble_eq_true rfl) dL_law_312 ?_
  refine l_eq hx (tgt := 827) dL_law_315 (by decide) ?_
  exact kk d0 σ1 τ1 A1 k1 k2 k3
theorem law_c6 {K : LC} {d0 : Drawn} {σ τ : zS} (hx : l_ok K) {i : Int} (h0 : 0 ≤ i) (h1 : i + 5 ≤ (l_L K : Int)) {A : zA} (hA : a_ok A) (hC : a_C σ A) (hM : a_M τ A) (kk : ∀ (d1 : Drawn) (σ1 τ1 : zS) (A1 : zA), a_ok A1 → a_C σ1 A1 → a_M τ1 A1 → l_W K d1 σ1 τ1 827 (l_lv K i) []) : l_W K d0 σ τ 320 (l_lv K i) [] := by
  obtain ⟨r, σ1, τ1, A1, e1, e2, k1, k2, k3⟩ := o_unmark (m := l_v K (i + 1)) hA hC hM l_v_zr
  refine l_aload_n hx 2 (i := 1) dL_law_320 rfl ?_
  refine l_arg hx 3 0 rfl rfl h0 h1 (j := 1) (by decide) dL_law_321 dL_law_322 dL_law_323 dL_law_324 dL_law_325 ?_
  refine l_iC hx (As := [.int (zi (l_v K (i + 1)))]) (met_X5_unmark (l_l K) (l_C K) (l_hC hx) e1) rfl cv_L_41 ⟨Nat.le_of_ble_eq_true rfl, Nat.le_of_ble_eq_true rfl⟩ ⟨rfl, rfl⟩ rfl rfl (Nat.le_of_ble_eq_true rfl) dL_law_326 ?_
  refine l_aload_n hx 1 (i := 2) dL_law_329 rfl ?_
  refine l_arg hx 3 0 rfl rfl h0 h1 (j := 1) (by decide) dL_law_330 dL_law_331 dL_law_332 dL_law_333 dL_law_334 ?_
  refine l_iM hx (As := [.int (zi (l_v K (i + 1)))]) (met_X6_unmark (l_l K) (l_M K) (l_hM hx) e2) rfl cv_L_44 ⟨Nat.le_of_ble_eq_true rfl, Nat.le_of_ble_eq_true rfl⟩ ⟨rfl, rfl⟩ rfl rfl (Nat.le_of_ble_eq_true rfl) dL_law_335 ?_
  refine l_eq hx (tgt := 827) dL_law_338 (by decide) ?_
  exact kk d0 σ1 τ1 A1 k1 k2 k3
theorem law_c7 {K : LC} {d0 : Drawn} {σ τ : zS} (hx : l_ok K) {i : Int} (h0 : 0 ≤ i) (h1 : i + 5 ≤ (l_L K : Int)) {A : zA} (hA : a_ok A) (hC : a_C σ A) (hM : a_M τ A) (kk : ∀ (d1 : Drawn) (σ1 τ1 : zS) (A1 : zA), a_ok A1 → a_C σ1 A1 → a_M τ1 A1 → l_W K d1 σ1 τ1 827 (l_lv K i) []) : l_W K d0 σ τ 343 (l_lv K i) [] := by
  by_cases hz : zi (l_v K (i + 2)) = 0
  · obtain ⟨r, σ1, τ1, A1, e1, e2, k1, k2, k3⟩ := o_hold (m := l_v K (i + 1)) (on := 0) (y := 0) hA hC hM l_v_zr (by omega) rfl
    refine l_aload_n hx 2 (i := 1) dL_law_343 rfl ?_
    refine l_arg hx 3 0 rfl rfl h0 h1 (j := 1) (by decide) dL_law_344 dL_law_345 dL_law_346 dL_law_347 dL_law_348 ?_
    refine l_arg hx 3 0 rfl rfl h0 h1 (j := 2) (by decide) dL_law_349 dL_law_350 dL_law_351 dL_law_352 dL_law_353 ?_
    refine l_if_eq hx (tgt := 361) dL_law_354 (by decide) (fun _ => ?_) (fun h => absurd hz h)
    refine l_iconst hx (v := 0) dL_law_361 ?_
    refine l_iC hx (As := [.int (zi (l_v K (i + 1))), .int (zi (0))]) (met_X5_hold (l_l K) (l_C K) (l_hC hx) e1) rfl cv_L_45 ⟨Nat.le_of_ble_eq_true rfl, Nat.le_of_ble_eq_true rfl⟩ ⟨rfl, rfl⟩ rfl rfl (Nat.le_of_ble_eq_true rfl) dL_law_362 ?_
    refine l_aload_n hx 1 (i := 2) dL_law_365 rfl ?_
    refine l_arg hx 3 0 rfl rfl h0 h1 (j := 1) (by decide) dL_law_366 dL_law_367 dL_law_368 dL_law_369 dL_law_370 ?_
    refine l_arg hx 3 0 rfl rfl h0 h1 (j := 2) (by decide) dL_law_371 dL_law_372 dL_law_373 dL_law_374 dL_law_375 ?_
    refine l_if_eq hx (tgt := 383) dL_law_376 (by decide) (fun _ => ?_) (fun h => absurd hz h)
    refine l_iconst hx (v := 0) dL_law_383 ?_
    refine l_iM hx (As := [.int (zi (l_v K (i + 1))), .int (zi (0))]) (met_X6_hold (l_l K) (l_M K) (l_hM hx) e2) rfl cv_L_49 ⟨Nat.le_of_ble_eq_true rfl, Nat.le_of_ble_eq_true rfl⟩ ⟨rfl, rfl⟩ rfl rfl (Nat.le_of_ble_eq_true rfl) dL_law_384 ?_
    refine l_eq hx (tgt := 827) dL_law_387 (by decide) ?_
    exact kk d0 σ1 τ1 A1 k1 k2 k3
  · obtain ⟨r, σ1, τ1, A1, e1, e2, k1, k2, k3⟩ := o_hold (m := l_v K (i + 1)) (on := 1) (y := 1) hA hC hM l_v_zr (by omega) rfl
    refine l_aload_n hx 2 (i := 1) dL_law_343 rfl ?_
    refine l_arg hx 3 0 rfl rfl h0 h1 (j := 1) (by decide) dL_law_344 dL_law_345 dL_law_346 dL_law_347 dL_law_348 ?_
    refine l_arg hx 3 0 rfl rfl h0 h1 (j := 2) (by decide) dL_law_349 dL_law_350 dL_law_351 dL_law_352 dL_law_353 ?_
    refine l_if_eq hx (tgt := 361) dL_law_354 (by decide) (fun h => absurd h hz) (fun _ => ?_)
    refine l_iconst hx (v := 1) dL_law_357 ?_
    refine l_goto hx (tgt := 362) dL_law_358 (by decide) ?_
    refine l_iC hx (As := [.int (zi (l_v K (i + 1))), .int (zi (1))]) (met_X5_hold (l_l K) (l_C K) (l_hC hx) e1) rfl cv_L_45 ⟨Nat.le_of_ble_eq_true rfl, Nat.le_of_ble_eq_true rfl⟩ ⟨rfl, rfl⟩ rfl rfl (Nat.le_of_ble_eq_true rfl) dL_law_362 ?_
    refine l_aload_n hx 1 (i := 2) dL_law_365 rfl ?_
    refine l_arg hx 3 0 rfl rfl h0 h1 (j := 1) (by decide) dL_law_366 dL_law_367 dL_law_368 dL_law_369 dL_law_370 ?_
    refine l_arg hx 3 0 rfl rfl h0 h1 (j := 2) (by decide) dL_law_371 dL_law_372 dL_law_373 dL_law_374 dL_law_375 ?_
    refine l_if_eq hx (tgt := 383) dL_law_376 (by decide) (fun h => absurd h hz) (fun _ => ?_)
    refine l_iconst hx (v := 1) dL_law_379 ?_
    refine l_goto hx (tgt := 384) dL_law_380 (by decide) ?_
    refine l_iM hx (As := [.int (zi (l_v K (i + 1))), .int (zi (1))]) (met_X6_hold (l_l K) (l_M K) (l_hM hx) e2) rfl cv_L_49 ⟨Nat.le_of_ble_eq_true rfl, Nat.le_of_ble_eq_true rfl⟩ ⟨rfl, rfl⟩ rfl rfl (Nat.le_of_ble_eq_true rfl) dL_law_384 ?_
    refine l_eq hx (tgt := 827) dL_law_387 (by decide) ?_
    exact kk d0 σ1 τ1 A1 k1 k2 k3
theorem law_c8 {K : LC} {d0 : Drawn} {σ τ : zS} (hx : l_ok K) {i : Int} (h0 : 0 ≤ i) (h1 : i + 5 ≤ (l_L K : Int)) {A : zA} (hA : a_ok A) (hC : a_C σ A) (hM : a_M τ A) (kk : ∀ (d1 : Drawn) (σ1 τ1 : zS) (A1 : zA), a_ok A1 → a_C σ1 A1 → a_M τ1 A1 → l_W K d1 σ1 τ1 827 (l_lv K i) []) : l_W K d0 σ τ 392 (l_lv K i) [] := by
  obtain ⟨r, σ1, τ1, A1, e1, e2, k1, k2, k3⟩ := o_set (x := l_v K (i + 1)) (y := l_v K (i + 2)) hA hC hM l_v_zr l_v_zr
  refine l_aload_n hx 2 (i := 1) dL_law_392 rfl ?_
  refine l_arg hx 3 0 rfl rfl h0 h1 (j := 1) (by decide) dL_law_393 dL_law_394 dL_law_395 dL_law_396 dL_law_397 ?_
  refine l_arg hx 3 0 rfl rfl h0 h1 (j := 2) (by decide) dL_law_398 dL_law_399 dL_law_400 dL_law_401 dL_law_402 ?_
  refine l_sC hx (As := [.int (zi (l_v K (i + 1))), .int (zi (l_v K (i + 2)))]) (met_X5_set (l_l K) (l_C K) (l_hC hx) e1) rfl cv_L_50 ⟨Nat.le_of_ble_eq_true rfl, Nat.le_of_ble_eq_true rfl⟩ ⟨rfl, rfl⟩ rfl rfl (Nat.le_of_ble_eq_true rfl) dL_law_403 ?_
  refine l_aload_n hx 1 (i := 2) dL_law_406 rfl ?_
  refine l_arg hx 3 0 rfl rfl h0 h1 (j := 1) (by decide) dL_law_407 dL_law_408 dL_law_409 dL_law_410 dL_law_411 ?_
  refine l_arg hx 3 0 rfl rfl h0 h1 (j := 2) (by decide) dL_law_412 dL_law_413 dL_law_414 dL_law_415 dL_law_416 ?_
  refine l_iM hx (As := [.int (zi (l_v K (i + 1))), .int (zi (l_v K (i + 2)))]) (met_X6_set (l_l K) (l_M K) (l_hM hx) e2) rfl cv_L_53 ⟨Nat.le_of_ble_eq_true rfl, Nat.le_of_ble_eq_true rfl⟩ ⟨rfl, rfl⟩ rfl rfl (Nat.le_of_ble_eq_true rfl) dL_law_417 ?_
  refine l_eq hx (tgt := 827) dL_law_420 (by decide) ?_
  exact kk d0 σ1 τ1 A1 k1 k2 k3
theorem law_c9 {K : LC} {d0 : Drawn} {σ τ : zS} (hx : l_ok K) {i : Int} (h0 : 0 ≤ i) (h1 : i + 5 ≤ (l_L K : Int)) {A : zA} (hA : a_ok A) (hC : a_C σ A) (hM : a_M τ A) (kk : ∀ (d1 : Drawn) (σ1 τ1 : zS) (A1 : zA), a_ok A1 → a_C σ1 A1 → a_M τ1 A1 → l_W K d1 σ1 τ1 827 (l_lv K i) []) : l_W K d0 σ τ 425 (l_lv K i) [] := by
  obtain ⟨r, σ1, τ1, A1, e1, e2, k1, k2, k3⟩ := o_setting (x := l_v K (i + 1)) hA hC hM l_v_zr
  refine l_aload_n hx 2 (i := 1) dL_law_425 rfl ?_
  refine l_arg hx 3 0 rfl rfl h0 h1 (j := 1) (by decide) dL_law_426 dL_law_427 dL_law_428 dL_law_429 dL_law_430 ?_
  refine l_iC hx (As := [.int (zi (l_v K (i + 1)))]) (met_X5_setting (l_l K) (l_C K) (l_hC hx) e1) rfl cv_L_54 ⟨Nat.le_of_ble_eq_true rfl, Nat.le_of_ble_eq_true rfl⟩ ⟨rfl, rfl⟩ rfl rfl (Nat.le_of_ble_eq_true rfl) dL_law_431 ?_
  refine l_aload_n hx 1 (i := 2) dL_law_434 rfl ?_
  refine l_arg hx 3 0 rfl rfl h0 h1 (j := 1) (by decide) dL_law_435 dL_law_436 dL_law_437 dL_law_438 dL_law_439 ?_
  refine l_iM hx (As := [.int (zi (l_v K (i + 1)))]) (met_X6_setting (l_l K) (l_M K) (l_hM hx) e2) rfl cv_L_57 ⟨Nat.le_of_ble_eq_true rfl, Nat.le_of_ble_eq_true rfl⟩ ⟨rfl, rfl⟩ rfl rfl (Nat.le_of_ble_eq_true rfl) dL_law_440 ?_
  refine l_eq hx (tgt := 827) dL_law_443 (by decide) ?_
  exact kk d0 σ1 τ1 A1 k1 k2 k3
theorem law_c10 {K : LC} {d0 : Drawn} {σ τ : zS} (hx : l_ok K) {i : Int} (h0 : 0 ≤ i) (h1 : i + 5 ≤ (l_L K : Int)) {A : zA} (hA : a_ok A) (hC : a_C σ A) (hM : a_M τ A) (kk : ∀ (d1 : Drawn) (σ1 τ1 : zS) (A1 : zA), a_ok A1 → a_C σ1 A1 → a_M τ1 A1 → l_W K d1 σ1 τ1 827 (l_lv K i) []) : l_W K d0 σ τ 448 (l_lv K i) [] := by
  obtain ⟨r, σ1, τ1, A1, e1, e2, k1, k2, k3⟩ := o_about (m := l_v K (i + 1)) (c := l_v K (i + 2)) hA hC hM l_v_zr l_v_zr
  refine l_aload_n hx 2 (i := 1) dL_law_448 rfl ?_
  refine l_arg hx 3 0 rfl rfl h0 h1 (j := 1) (by decide) dL_law_449 dL_law_450 dL_law_451 dL_law_452 dL_law_453 ?_
  refine l_arg hx 3 0 rfl rfl h0 h1 (j := 2) (by decide) dL_law_454 dL_law_455 dL_law_456 dL_law_457 dL_law_458 ?_
  refine l_iC hx (As := [.int (zi (l_v K (i + 1))), .int (zi (l_v K (i + 2)))]) (met_X5_about (l_l K) (l_C K) (l_hC hx) e1) rfl cv_L_58 ⟨Nat.le_of_ble_eq_true rfl, Nat.le_of_ble_eq_true rfl⟩ ⟨rfl, rfl⟩ rfl rfl (Nat.le_of_ble_eq_true rfl) dL_law_459 ?_
  refine l_aload_n hx 1 (i := 2) dL_law_462 rfl ?_
  refine l_arg hx 3 0 rfl rfl h0 h1 (j := 1) (by decide) dL_law_463 dL_law_464 dL_law_465 dL_law_466 dL_law_467 ?_
  refine l_arg hx 3 0 rfl rfl h0 h1 (j := 2) (by decide) dL_law_468 dL_law_469 dL_law_470 dL_law_471 dL_law_472 ?_
  refine l_iM hx (As := [.int (zi (l_v K (i + 1))), .int (zi (l_v K (i + 2)))]) (met_X6_about (l_l K) (l_M K) (l_hM hx) e2) rfl cv_L_61 ⟨Nat.le_of_ble_eq_true rfl, Nat.le_of_ble_eq_true rfl⟩ ⟨rfl, rfl⟩ rfl rfl (Nat.le_of_ble_eq_true rfl) dL_law_473 ?_
  refine l_eq hx (tgt := 827) dL_law_476 (by decide) ?_
  exact kk d0 σ1 τ1 A1 k1 k2 k3
theorem law_c11 {K : LC} {d0 : Drawn} {σ τ : zS} (hx : l_ok K) {i : Int} (h0 : 0 ≤ i) (h1 : i + 5 ≤ (l_L K : Int)) {A : zA} (hA : a_ok A) (hC : a_C σ A) (hM : a_M τ A) (kk : ∀ (d1 : Drawn) (σ1 τ1 : zS) (A1 : zA), a_ok A1 → a_C σ1 A1 → a_M τ1 A1 → l_W K d1 σ1 τ1 827 (l_lv K i) []) : l_W K d0 σ τ 481 (l_lv K i) [] := by
  obtain ⟨r, σ1, τ1, A1, e1, e2, k1, k2, k3⟩ := o_level (x := l_v K (i + 1)) hA hC hM l_v_zr
  refine l_aload_n hx 2 (i := 1) dL_law_481 rfl ?_
  refine l_arg hx 3 0 rfl rfl h0 h1 (j := 1) (by decide) dL_law_482 dL_law_483 dL_law_484 dL_law_485 dL_law_486 ?_
  refine l_iC hx (As := [.int (zi (l_v K (i + 1)))]) (met_X5_level (l_l K) (l_C K) (l_hC hx) e1) rfl cv_L_62 ⟨Nat.le_of_ble_eq_true rfl, Nat.le_of_ble_eq_true rfl⟩ ⟨rfl, rfl⟩ rfl rfl (Nat.le_of_ble_eq_true rfl) dL_law_487 ?_
  refine l_aload_n hx 1 (i := 2) dL_law_490 rfl ?_
  refine l_arg hx 3 0 rfl rfl h0 h1 (j := 1) (by decide) dL_law_491 dL_law_492 dL_law_493 dL_law_494 dL_law_495 ?_
  refine l_iM hx (As := [.int (zi (l_v K (i + 1)))]) (met_X6_level (l_l K) (l_M K) (l_hM hx) e2) rfl cv_L_65 ⟨Nat.le_of_ble_eq_true rfl, Nat.le_of_ble_eq_true rfl⟩ ⟨rfl, rfl⟩ rfl rfl (Nat.le_of_ble_eq_true rfl) dL_law_496 ?_
  refine l_eq hx (tgt := 827) dL_law_499 (by decide) ?_
  exact kk d0 σ1 τ1 A1 k1 k2 k3
theorem law_c12 {K : LC} {d0 : Drawn} {σ τ : zS} (hx : l_ok K) {i : Int} (h0 : 0 ≤ i) (h1 : i + 5 ≤ (l_L K : Int)) {A : zA} (hA : a_ok A) (hC : a_C σ A) (hM : a_M τ A) (kk : ∀ (d1 : Drawn) (σ1 τ1 : zS) (A1 : zA), a_ok A1 → a_C σ1 A1 → a_M τ1 A1 → l_W K d1 σ1 τ1 827 (l_lv K i) []) : l_W K d0 σ τ 504 (l_lv K i) [] := by
  obtain ⟨r, σ1, τ1, A1, e1, e2, k1, k2, k3⟩ := o_cuts  hA hC hM 
  refine l_aload_n hx 2 (i := 1) dL_law_504 rfl ?_
  refine l_iC hx (As := []) (met_X5_cuts (l_l K) (l_C K) (l_hC hx) e1) rfl cv_L_66 ⟨Nat.le_of_ble_eq_true rfl, Nat.le_of_ble_eq_true rfl⟩ ⟨rfl, rfl⟩ rfl rfl (Nat.le_of_ble_eq_true rfl) dL_law_505 ?_
  refine l_aload_n hx 1 (i := 2) dL_law_508 rfl ?_
  refine l_iM hx (As := []) (met_X6_cuts (l_l K) (l_M K) (l_hM hx) e2) rfl cv_L_69 ⟨Nat.le_of_ble_eq_true rfl, Nat.le_of_ble_eq_true rfl⟩ ⟨rfl, rfl⟩ rfl rfl (Nat.le_of_ble_eq_true rfl) dL_law_509 ?_
  refine l_eq hx (tgt := 827) dL_law_512 (by decide) ?_
  exact kk d0 σ1 τ1 A1 k1 k2 k3
