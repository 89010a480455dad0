/-! THE LAW: from its entry on -/
theorem wcl_L_7 : Cond.classLink RL 7 RX5 ∈ z_ws := z_ws_t 10 (by decide +kernel) (by decide +kernel)
theorem wins_X5 : Cond.instantiable RX5 7 ∈ z_ws := z_ws_t 11 (by decide +kernel) (by decide +kernel)
theorem wm_L_9 : Cond.methodLink RL 9 yX5_init ∈ z_ws := z_ws_t 12 (by decide +kernel) (by decide +kernel)
theorem win_X5_init : Cond.instanceMethod yX5_init ∈ z_ws := z_ws_t 13 (by decide +kernel) (by decide +kernel)
theorem wc_X5_init : Cond.code yX5_init cX5_init 1 none ∈ z_ws := z_ws_t 14 (by decide +kernel) (by decide +kernel)
theorem wcl_L_10 : Cond.classLink RL 10 RX6 ∈ z_ws := z_ws_t 551 (by decide +kernel) (by decide +kernel)
theorem wins_X6 : Cond.instantiable RX6 19 ∈ z_ws := z_ws_t 552 (by decide +kernel) (by decide +kernel)
theorem wm_L_12 : Cond.methodLink RL 12 yX6_init ∈ z_ws := z_ws_t 553 (by decide +kernel) (by decide +kernel)
theorem win_X6_init : Cond.instanceMethod yX6_init ∈ z_ws := z_ws_t 554 (by decide +kernel) (by decide +kernel)
theorem wc_X6_init : Cond.code yX6_init cX6_init 1 none ∈ z_ws := z_ws_t 555 (by decide +kernel) (by decide +kernel)
set_option maxRecDepth 100000 in
set_option maxHeartbeats 4000000 in
theorem l_static {s : State} {b : Nat} (hgv : (Jvm.Cond.and given_1 narrow_1).before #[Value.ref b] s = true) (h1 : (Cond.laysStatic "SpeechCleaner" "INITIAL_SETTINGS" "[I").before #[Value.ref b] s = true) (h2 : (Cond.laysStatic "SpeechCleaner" "GREATEST_SETTINGS" "[I").before #[Value.ref b] s = true) (h3 : (Cond.initialized "SpeechCleaner").before #[Value.ref b] s = true) : ∃ gs gt : Nat, k_St (l_A s) s s.heap gs ∧ z_Sr "GREATEST_SETTINGS" z_most gt (l_A s) s := by
  have hs := flat_of_before _ hgv
  have hA : ∀ q : Nat, q < s.heap.size → ¬ l_A s q := fun q h h9 => absurd h (Nat.not_lt.mpr h9)
  have e_gs : ∀ j : Nat, j < 7 → (Cond.eq (.elem (.static "SpeechCleaner" "INITIAL_SETTINGS" "[I") (.int (Int32.ofNat j))) (.int (zi (z_init (j : Int))))).before #[Value.ref b] s = true := by
    intro j hj
    rcases (show j = 0 ∨ j = 1 ∨ j = 2 ∨ j = 3 ∨ j = 4 ∨ j = 5 ∨ j = 6 by omega) with rfl | rfl | rfl | rfl | rfl | rfl | rfl
    · exact hs (.eq (.elem (.static "SpeechCleaner" "INITIAL_SETTINGS" "[I") (.int 0)) (.int 30)) (by decide +kernel)
    · exact hs (.eq (.elem (.static "SpeechCleaner" "INITIAL_SETTINGS" "[I") (.int 1)) (.int 1)) (by decide +kernel)
    · exact hs (.eq (.elem (.static "SpeechCleaner" "INITIAL_SETTINGS" "[I") (.int 2)) (.int 5)) (by decide +kernel)
    · exact hs (.eq (.elem (.static "SpeechCleaner" "INITIAL_SETTINGS" "[I") (.int 3)) (.int 4)) (by decide +kernel)
    · exact hs (.eq (.elem (.static "SpeechCleaner" "INITIAL_SETTINGS" "[I") (.int 4)) (.int 50)) (by decide +kernel)
    · exact hs (.eq (.elem (.static "SpeechCleaner" "INITIAL_SETTINGS" "[I") (.int 5)) (.int 6)) (by decide +kernel)
    · exact hs (.eq (.elem (.static "SpeechCleaner" "INITIAL_SETTINGS" "[I") (.int 6)) (.int 2)) (by decide +kernel)
  obtain ⟨gs, gs1, gs2, gs3⟩ := l_Xof (f := fun j => zi (z_init (j : Int))) (hs (.arrayOf (.static "SpeechCleaner" "INITIAL_SETTINGS" "[I") .int) (by decide +kernel)) (hs (.eq (.length (.static "SpeechCleaner" "INITIAL_SETTINGS" "[I")) (.int 7)) (by decide +kernel)) e_gs
  have e_gt : ∀ j : Nat, j < 7 → (Cond.eq (.elem (.static "SpeechCleaner" "GREATEST_SETTINGS" "[I") (.int (Int32.ofNat j))) (.int (zi (z_most (j : Int))))).before #[Value.ref b] s = true := by
    intro j hj
    rcases (show j = 0 ∨ j = 1 ∨ j = 2 ∨ j = 3 ∨ j = 4 ∨ j = 5 ∨ j = 6 by omega) with rfl | rfl | rfl | rfl | rfl | rfl | rfl
    · exact hs (.eq (.elem (.static "SpeechCleaner" "GREATEST_SETTINGS" "[I") (.int 0)) (.int 100)) (by decide +kernel)
    · exact hs (.eq (.elem (.static "SpeechCleaner" "GREATEST_SETTINGS" "[I") (.int 1)) (.int 9)) (by decide +kernel)
    · exact hs (.eq (.elem (.static "SpeechCleaner" "GREATEST_SETTINGS" "[I") (.int 2)) (.int 20)) (by decide +kernel)
    · exact hs (.eq (.elem (.static "SpeechCleaner" "GREATEST_SETTINGS" "[I") (.int 3)) (.int 50)) (by decide +kernel)
    · exact hs (.eq (.elem (.static "SpeechCleaner" "GREATEST_SETTINGS" "[I") (.int 4)) (.int 100)) (by decide +kernel)
    · exact hs (.eq (.elem (.static "SpeechCleaner" "GREATEST_SETTINGS" "[I") (.int 5)) (.int 50)) (by decide +kernel)
    · exact hs (.eq (.elem (.static "SpeechCleaner" "GREATEST_SETTINGS" "[I") (.int 6)) (.int 50)) (by decide +kernel)
  obtain ⟨gt, gt1, gt2, gt3⟩ := l_Xof (f := fun j => zi (z_most (j : Int))) (hs (.arrayOf (.static "SpeechCleaner" "GREATEST_SETTINGS" "[I") .int) (by decide +kernel)) (hs (.eq (.length (.static "SpeechCleaner" "GREATEST_SETTINGS" "[I")) (.int 7)) (by decide +kernel)) e_gt
  exact ⟨gs, gt, ⟨va_Zof h1 h3 gs1 hA, gs2, gs3, hA _ gs3⟩, ⟨va_Zof h2 h3 gt1 hA, gt2, gt3, hA _ gt3⟩⟩
set_option maxRecDepth 100000 in
set_option maxHeartbeats 4000000 in
theorem whole_start {p : Program} {e : Env} {s : State} {m : MethodId} {below : List Frame} {meth : Method} {c : Code} (l : Launch) (hflags : l.flags = flags0) {b L : Nat} {xs : Nat → Int32} (hL : L ≤ 2560) (C0 : lw_At p s m meth c b L xs) : W p l e room_1 s m #[Value.ref b] below meth c s.heap [] 0 0 (lw_Z below #[Value.ref b] s) (entryFrame m ([Value.ref b] : List Value).toArray 8) := by
  obtain ⟨hx, hb, hr, hml, hown, hts0, hX, hbl, hlocks, hgv⟩ := id C0
  have hts : ∀ w ∈ z_ws, w.before #[Value.ref b] s = true := fun w h => hts0 w (List.mem_filter.mp h).1
  obtain ⟨c0, iS0, hKn0⟩ := u_known (C := RX0) (T := TX0) (N := 6) (n := 6) hts z_inX0 (hts _ wins_X0)
  obtain ⟨c1, iS1, hKn1⟩ := u_known (C := RX1) (T := TX1) (N := 2) (n := 2) hts z_inX1 (hts _ wins_X1)
  obtain ⟨c2, iS2, hKn2⟩ := u_known (C := RX2) (T := TX2) (N := 9) (n := 9) hts z_inX2 (hts _ wins_X2)
  obtain ⟨c3, iS3, hKn3⟩ := u_known (C := RX3) (T := TX3) (N := 7) (n := 7) hts z_inX3 (hts _ wins_X3)
  obtain ⟨c4, iS4, hKn4⟩ := u_known (C := RX4) (T := TX4) (N := 7) (n := 7) hts z_inX4 (hts _ wins_X4)
  obtain ⟨c5, iS5, hKn5⟩ := u_known (C := RX5) (T := TX5) (N := 7) (n := 7) hts z_inX5 (hts _ wins_X5)
  obtain ⟨c6, iS6, hKn6⟩ := u_known (C := RX6) (T := TX6) (N := 19) (n := 19) hts z_inX6 (hts _ wins_X6)
  obtain ⟨dC, dI, hKc⟩ : ∃ (dC : Nat → ClassId) (dI : Nat → Nat → Nat), ∀ (k : Nat) (q : vw_C), vwCl[k]? = some q → u_Kn s q.1 q.2.1 q.2.2 (dC k) (dI k) := by
    refine ⟨fun k => if k = 0 then c0 else if k = 1 then c1 else if k = 2 then c2 else if k = 3 then c3 else if k = 4 then c4 else if k = 5 then c5 else c6, fun k => if k = 0 then iS0 else if k = 1 then iS1 else if k = 2 then iS2 else if k = 3 then iS3 else if k = 4 then iS4 else if k = 5 then iS5 else iS6, ?_⟩
    intro k q hq
    match k, hq with
    | 0, hq => cases hq; exact hKn0
    | 1, hq => cases hq; exact hKn1
    | 2, hq => cases hq; exact hKn2
    | 3, hq => cases hq; exact hKn3
    | 4, hq => cases hq; exact hKn4
    | 5, hq => cases hq; exact hKn5
    | 6, hq => cases hq; exact hKn6
    | k + 7, hq => simp [vwCl] at hq
  obtain ⟨cI, kI, compI, i1, i2, i3⟩ := Cond.arrayClass_spec (hts _ wa_I)
  obtain ⟨cZ, kZ, compZ, j1, j2, j3⟩ := Cond.arrayClass_spec (hts _ wa_Z)
  have hAO : va_AO RX2 s := va_AO.of (hts0 _ (List.mem_append_right _ (List.mem_of_getElem? (i := 85) (by decide +kernel))))
  obtain ⟨compR, cR, kR, r1, r2, r3, r4, r5⟩ := Cond.arrayOver_spec hAO
  have hK : va_K (dC, dI) vwCl [(cI, .int), (cZ, .boolean), (cR, .object RX2)] s := by
    refine ⟨hKc, fun k q hq => ?_⟩
    match k, hq with
    | 0, hq => cases hq; exact ⟨fun n z => ⟨fun k h => (by cases h), kI, i2, compI, i3⟩, i1⟩
    | 1, hq => cases hq; exact ⟨fun n z => ⟨fun k h => (by cases h), kZ, j2, compZ, j3⟩, j1⟩
    | 2, hq => cases hq; exact ⟨fun n z => ⟨fun k h => (by cases h), kR, r3, compR, r4⟩, kR, compR, r3, r4, r1, r5⟩
    | k + 3, hq => simp at hq
  obtain ⟨gs, gt, hSt, hSg⟩ := l_static hgv (hts0 _ (List.mem_append_right _ (List.mem_of_getElem? (i := 25) (by decide +kernel)))) (hts0 _ (List.mem_append_right _ (List.mem_of_getElem? (i := 326) (by decide +kernel)))) (hts _ wi_X5)
  have hNe : k_Ne s := ⟨va_Nw.of rfl (hts0 _ (List.mem_append_right _ (List.mem_of_getElem? (i := 24) (by decide +kernel)))), va_Nw.of rfl (hts0 _ (List.mem_append_right _ (List.mem_of_getElem? (i := 97) (by decide +kernel)))), va_Nw.of rfl (hts0 _ (List.mem_append_right _ (List.mem_of_getElem? (i := 128) (by decide +kernel)))), va_Nw.of rfl (hts0 _ (List.mem_append_right _ (List.mem_of_getElem? (i := 158) (by decide +kernel)))), hAO⟩
  have hd0 := Drawn.sameBut.refl s.drawn lw_cs
  refine W.base ?_
  have hl := lv_entry ([.ref b]) (n := 8) (Nat.le_of_ble_eq_true rfl)
  rw [lg_entry_eq]
  generalize (lg_sl ([.ref b]) ++ List.replicate (8 - (lg_sl ([.ref b])).length) Slot.unset).toArray = ls at hl ⊢
  have hl : lv_has ls 8 [(0, .ref b)] := hl
  obtain ⟨C, hC⟩ : ∃ C : zC, C = (p, l, e, room_1, s.setDrawn s.drawn, m, #[Value.ref b], below, meth, c, lw_Z below #[Value.ref b] s, 0, 0, l_A s, s.heap, 8, (0, fun _ => 0, cI, cZ, cR, (dC, dI))) := ⟨_, rfl⟩
  have hk : kl_ok C cL_law RL gs := by
    rw [hC]
    exact ⟨hx, hb, hml, hown, dr_words hts _, hK, fun q h => h, rfl, trivial, hNe, hSt⟩
  have hR : z_R C = room_1 := by rw [hC]
  have hn : C.2.2.2.2.2.2.2.2.2.2.2.2.2.2.2.1 = 8 := by rw [hC]
  have key : k_W C [] 0 0 0 [(0, .ref b)] [] := by
    refine kl_new hk (ci := 5) rfl z_inX5 tyX5 tyX5_ok wcl_L_7 wins_X5 wi_X5 [.null, .int 0, .null, .null, .null, .null, .null] (fun j hj => by rcases (show j = 0 ∨ j = 1 ∨ j = 2 ∨ j = 3 ∨ j = 4 ∨ j = 5 ∨ j = 6 by omega) with rfl | rfl | rfl | rfl | rfl | rfl | rfl <;> rfl) (by rw [hR]; exact ⟨Nat.le_of_ble_eq_true rfl, Nat.le_of_ble_eq_true rfl⟩) dL_law_0 (fun q1 => ?_)
    refine kl_dup hk dL_law_3 rfl ?_
    refine kl_call hk (wr := []) (met_X5_init (z_l C) (z_g C) gs q1) (Or.inl wm_L_9) win_X5_init wi_X5 wc_X5_init rfl (by decide +kernel) (by rw [hR]; exact ⟨⟨Nat.le_of_ble_eq_true rfl, Nat.le_of_ble_eq_true rfl⟩, Nat.le_of_ble_eq_true rfl, Nat.le_of_ble_eq_true rfl⟩) 0 [] rfl rfl (by decide) (by decide) (Nat.le_of_ble_eq_true rfl) dL_law_4 (fun u1 => ?_)
    refine kl_astore_n hk hn (lv' := [(1, .ref q1), (0, .ref b)]) dL_law_7 (by decide) rfl ?_
    refine kl_new hk (ci := 6) rfl z_inX6 tyX6 tyX6_ok wcl_L_10 wins_X6 wi_X6 [.null, .null, .int 0, .null, .int 0, .int 0, .int 0, .int 0, .int 0, .null, .null, .null, .int 0, .null, .null, .int 0, .null, .int 0, .int 0] (fun j hj => by rcases (show j = 0 ∨ j = 1 ∨ j = 2 ∨ j = 3 ∨ j = 4 ∨ j = 5 ∨ j = 6 ∨ j = 7 ∨ j = 8 ∨ j = 9 ∨ j = 10 ∨ j = 11 ∨ j = 12 ∨ j = 13 ∨ j = 14 ∨ j = 15 ∨ j = 16 ∨ j = 17 ∨ j = 18 by omega) with rfl | rfl | rfl | rfl | rfl | rfl | rfl | rfl | rfl | rfl | rfl | rfl | rfl | rfl | rfl | rfl | rfl | rfl | rfl <;> rfl) (by rw [hR]; exact ⟨Nat.le_of_ble_eq_true rfl, Nat.le_of_ble_eq_true rfl⟩) dL_law_8 (fun q2 => ?_)
    refine kl_dup hk dL_law_11 rfl ?_
    refine kl_call hk (wr := wd_X5 (z_g C) q1 u1) (met_X6_init (z_l C) (z_g C) gs q2) (Or.inl wm_L_12) win_X6_init wi_X6 wc_X6_init rfl (by decide +kernel) (by rw [hR]; exact ⟨⟨Nat.le_of_ble_eq_true rfl, Nat.le_of_ble_eq_true rfl⟩, Nat.le_of_ble_eq_true rfl, Nat.le_of_ble_eq_true rfl⟩) 64 [0, 1, 2, 3, 4, 5, 6, 7, 8, 9, 10, 11, 12, 13, 14, 15, 16, 17, 18, 19, 20, 21, 22, 23, 24, 25, 26, 27, 28, 29, 30, 31, 32, 33, 34, 35, 36, 37, 38, 39, 40, 41, 42, 43, 44, 45, 46, 47, 48, 49, 50, 51, 52, 53, 54, 55, 56, 57, 58, 59, 60, 61, 62, 63] rfl rfl (by decide) (by decide) (Nat.le_of_ble_eq_true rfl) dL_law_12 (fun u2 => ?_)
    refine kl_astore_n hk hn (lv' := [(2, .ref q2), (1, .ref q1), (0, .ref b)]) dL_law_15 (by decide) rfl ?_
    refine kl_iconst hk (v := 0) dL_law_16 ?_
    refine kl_istore_n hk hn (lv' := [(3, .int (zi 0)), (2, .ref q2), (1, .ref q1), (0, .ref b)]) dL_law_17 (by decide) rfl ?_
    subst hC
    intro H locs ls hP hD hS hl
    have hP : va_P (dC, dI) vwCl (z_w (0, fun k => if k = 62 then q1 else u1 k, cI, cZ, cR, (dC, dI)) z_s0 ++ z_w (1, fun k => if k = 0 then q2 else u2 k, cI, cZ, cR, (dC, dI)) z_m0) H := hP
    have hD : va_D (l_A s) (z_w (0, fun k => if k = 62 then q1 else u1 k, cI, cZ, cR, (dC, dI)) z_s0 ++ z_w (1, fun k => if k = 0 then q2 else u2 k, cI, cZ, cR, (dC, dI)) z_m0) := hD
    obtain ⟨gC, hgC⟩ : ∃ gC : zG, gC = (0, fun k => if k = 62 then q1 else u1 k, cI, cZ, cR, (dC, dI)) := ⟨_, rfl⟩
    obtain ⟨gM, hgM⟩ : ∃ gM : zG, gM = (1, fun k => if k = 0 then q2 else u2 k, cI, cZ, cR, (dC, dI)) := ⟨_, rfl⟩
    rw [← hgC, ← hgM] at hP hD
    have hC1 : gC.1 = 0 := by rw [hgC]
    have hM1 : gM.1 = 1 := by rw [hgM]
    have lenC : (z_w gC z_s0).length = 64 := by simp [z_wd, z_N0 hC1]
    have lenM : (z_w gM z_m0).length = 10 := by simp [z_wd, z_N1 hM1]
    have atC : ∀ (i : Nat) (x : Nat × va_E), (z_w gC z_s0)[i]? = some x → (z_w gC z_s0 ++ z_w gM z_m0)[i]? = some x := fun i x h => by
      rw [List.getElem?_append_left (List.getElem?_eq_some_iff.mp h).1]; exact h
    have atM : ∀ (i : Nat) (x : Nat × va_E), (z_w gM z_m0)[i]? = some x → (z_w gC z_s0 ++ z_w gM z_m0)[64 + i]? = some x := fun i x h => by
      rw [List.getElem?_append_right (by omega), lenC, Nat.add_sub_cancel_left]; exact h
    have hPC : va_P (dC, dI) vwCl (z_w gC z_s0) H := fun i x h => hP i x (atC i x h)
    have hPM : va_P (dC, dI) vwCl (z_w gM z_m0) H := fun i x h => hP (64 + i) x (atM i x h)
    have hDC : va_D (l_A s) (z_w gC z_s0) := ⟨fun i j x y hi hj he => hD.1 i j x y (atC i x hi) (atC j y hj) he, fun i x h => hD.2 i x (atC i x h)⟩
    have hDM : va_D (l_A s) (z_w gM z_m0) := ⟨fun i j x y hi hj he => by have := hD.1 (64 + i) (64 + j) x y (atM i x hi) (atM j y hj) he; omega, fun i x h => hD.2 (64 + i) x (atM i x h)⟩
    have hdis : ∀ i j, i < 64 → j < 10 → gC.2.1 i ≠ gM.2.1 j := fun i j hi hj he => by
      have e1 := atC i _ (z_wd_get (mk := z_mk gC) (ad := gC.2.1) (σ := z_s0) (z_lt0 hC1 hi))
      have e2 := atM j _ (z_wd_get (mk := z_mk gM) (ad := gM.2.1) (σ := z_m0) (z_lt1 hM1 hj))
      have := hD.1 i (64 + j) _ _ e1 e2 he
      omega
    refine W.widen (k := 600000) (n := 7302250) (Nat.le_of_ble_eq_true rfl) (Nat.le_of_ble_eq_true rfl) ?_
    have hok : l_ok (p, l, e, s, m, b, below, meth, c, L, xs, gC, gM, gt) := ⟨hx, hb, hr, hml, hown, hts, hX, hbl, hlocks, hL, hC1, hM1, by rw [hgC]; exact hK, by rw [hgM]; exact hK, fun τ => z_wd_D hDC, fun τ => z_wd_D hDM, hdis, hSg⟩
    have hlv : lv_has ls 8 (l_lv (p, l, e, s, m, b, below, meth, c, L, xs, gC, gM, gt) 0) := by
      subst hgC
      subst hgM
      exact hl
    exact law_loop hok hL (L + 1) 0 s.drawn z_s0 z_m0 z_A0 (by show (L : Int) - 0 < ((L + 1 : Nat) : Int); omega) (by omega) (by omega) z_A0_ok z_A0_C z_A0_M hd0 H locs ls (by rw [hgC] at hPC ⊢; exact hPC) (by rw [hgM] at hPM ⊢; exact hPM) hS hlv
  subst hC
  exact key s.heap [] ls (fun k q h => by simp at h) ⟨fun i j p q h => by simp at h, fun k q h => by simp at h⟩ va_S.rf hl
