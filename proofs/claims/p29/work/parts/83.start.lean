/-! THE LAW: from its entry on -/
theorem wcl_L_10 : Cond.classLink RL 10 RX5 ∈ z_ws := z_ws_t 9 (by decide +kernel) (by decide +kernel)
theorem wins_X5 : Cond.instantiable RX5 7 ∈ z_ws := z_ws_t 10 (by decide +kernel) (by decide +kernel)
theorem wm_L_90 : Cond.methodLink RL 90 yX5_init ∈ z_ws := z_ws_t 11 (by decide +kernel) (by decide +kernel)
theorem win_X5_init : Cond.instanceMethod yX5_init ∈ z_ws := z_ws_t 12 (by decide +kernel) (by decide +kernel)
theorem wc_X5_init : Cond.code yX5_init cX5_init 1 none ∈ z_ws := z_ws_t 13 (by decide +kernel) (by decide +kernel)
set_option maxRecDepth 100000 in
set_option maxHeartbeats 4000000 in
theorem l_static {s : State} {b : Nat} (hgv : (Jvm.Cond.and given_1 narrow_1).before #[Value.ref b] s = true) (h1 : (Cond.laysStatic "SpeechCleaner" "INITIAL_SETTINGS" "[I").before #[Value.ref b] s = true) (h2 : (Cond.laysStatic "SpeechCleaner" "GREATEST_SETTINGS" "[I").before #[Value.ref b] s = true) (h3 : (Cond.initialized "SpeechCleaner").before #[Value.ref b] s = true) : ∃ gs gt : Nat, k_St (l_A s) s s.heap gs ∧ z_Sr "GREATEST_SETTINGS" z_most gt (l_A s) s := by
  have hs := flat_of_before _ hgv
  have hA : ∀ q : Nat, q < s.heap.size → ¬ l_A s q := fun q h h9 => absurd h (Nat.not_lt.mpr h9)
  have e_gs : ∀ j : Nat, j < 7 → (Cond.eq (.elem (.static "SpeechCleaner" "INITIAL_SETTINGS" "[I") (.int (Int32.ofNat j))) (.int (zi (z_init (j : Int))))).before #[Value.ref b] s = true := by
    intro j hj
    rcases (show j = 0 ∨ j = 1 ∨ j = 2 ∨ j = 3 ∨ j = 4 ∨ j = 5 ∨ j = 6 by omega) with rfl | rfl | rfl | rfl | rfl | rfl | rfl
    · exact hs (.eq (.elem (.static "SpeechCleaner" "INITIAL_SETTINGS" "[I") (.int 0)) (.int 30)) (by decide +kernel)
    · exact hs (.eq (.elem (.static "SpeechCleaner" "INITIAL_SETTINGS" "[I") (.int 1)) (.int 1)) (by decide +kernel)
    · exact hs (.eq (.elem (.static "SpeechCleaner" "INITIAL_SETTINGS" "[I") (.int 2)) (.int 5)) (by decide +kernel)
    · exact hs (.eq (.elem (.static "SpeechCleaner" "INITIAL_SETTINGS" "[I") (.int 3)) (.int 4)) (by decide +kernel)
    · exact hs (.eq (.elem (.static "SpeechCleaner" "INITIAL_SETTINGS" "[I") (.int 4)) (.int 50)) (by decide +kernel)
    · exact hs (.eq (.elem (.static "SpeechCleaner" "INITIAL_SETTINGS" "[I") (.int 5)) (.int 6)) (by decide +kernel)
    · exact hs (.eq (.elem (.static "SpeechCleaner" "INITIAL_SETTINGS" "[I") (.int 6)) (.int 2)) (by decide +kernel)
  obtain ⟨gs, gs1, gs2, gs3⟩ := l_Xof (f := fun j => zi (z_init (j : Int))) (hs (.arrayOf (.static "SpeechCleaner" "INITIAL_SETTINGS" "[I") .int) (by decide +kernel)) (hs (.eq (.length (.static "SpeechCleaner" "INITIAL_SETTINGS" "[I")) (.int 7)) (by decide +kernel)) e_gs
  have e_gt : ∀ j : Nat, j < 7 → (Cond.eq (.elem (.static "SpeechCleaner" "GREATEST_SETTINGS" "[I") (.int (Int32.ofNat j))) (.int (zi (z_most (j : Int))))).before #[Value.ref b] s = true := by
    intro j hj
    rcases (show j = 0 ∨ j = 1 ∨ j = 2 ∨ j = 3 ∨ j = 4 ∨ j = 5 ∨ j = 6 by omega) with rfl | rfl | rfl | rfl | rfl | rfl | rfl
    · exact hs (.eq (.elem (.static "SpeechCleaner" "GREATEST_SETTINGS" "[I") (.int 0)) (.int 100)) (by decide +kernel)
    · exact hs (.eq (.elem (.static "SpeechCleaner" "GREATEST_SETTINGS" "[I") (.int 1)) (.int 9)) (by decide +kernel)
    · exact hs (.eq (.elem (.static "SpeechCleaner" "GREATEST_SETTINGS" "[I") (.int 2)) (.int 20)) (by decide +kernel)
    · exact hs (.eq (.elem (.static "SpeechCleaner" "GREATEST_SETTINGS" "[I") (.int 3)) (.int 50)) (by decide +kernel)
    · exact hs (.eq (.elem (.static "SpeechCleaner" "GREATEST_SETTINGS" "[I") (.int 4)) (.int 100)) (by decide +kernel)
    · exact hs (.eq (.elem (.static "SpeechCleaner" "GREATEST_SETTINGS" "[I") (.int 5)) (.int 50)) (by decide +kernel)
    · exact hs (.eq (.elem (.static "SpeechCleaner" "GREATEST_SETTINGS" "[I") (.int 6)) (.int 50)) (by decide +kernel)
  obtain ⟨gt, gt1, gt2, gt3⟩ := l_Xof (f := fun j => zi (z_most (j : Int))) (hs (.arrayOf (.static "SpeechCleaner" "GREATEST_SETTINGS" "[I") .int) (by decide +kernel)) (hs (.eq (.length (.static "SpeechCleaner" "GREATEST_SETTINGS" "[I")) (.int 7)) (by decide +kernel)) e_gt
  exact ⟨gs, gt, ⟨va_Zof h1 h3 gs1 hA, gs2, gs3, hA _ gs3⟩, ⟨va_Zof h2 h3 gt1 hA, gt2, gt3, hA _ gt3⟩⟩
set_option maxRecDepth 100000 in
set_option maxHeartbeats 4000000 in
theorem whole_start {p : Program} {e : Env} {s : State} {m : MethodId} {below : List Frame} {meth : Method} {c : Code} (l : Launch) (hflags : l.flags = flags0) {b L : Nat} {xs : Nat → Int32} (hL : L ≤ 260) (C0 : lw_At p s m meth c b L xs) : W p l e room_1 s m #[Value.ref b] below meth c s.heap [] 0 0 (lw_Z below #[Value.ref b] s) (entryFrame m ([Value.ref b] : List Value).toArray 13) := by
  obtain ⟨hx, hb, hr, hml, hown, hts0, hX, hbl, hlocks, hgv⟩ := id C0
  have hts : ∀ w ∈ z_ws, w.before #[Value.ref b] s = true := fun w h => hts0 w (List.mem_filter.mp h).1
  obtain ⟨c0, iS0, hKn0⟩ := u_known (C := RX0) (T := TX0) (N := 6) (n := 6) hts z_inX0 (hts _ wins_X0)
  obtain ⟨c1, iS1, hKn1⟩ := u_known (C := RX1) (T := TX1) (N := 2) (n := 2) hts z_inX1 (hts _ wins_X1)
  obtain ⟨c2, iS2, hKn2⟩ := u_known (C := RX2) (T := TX2) (N := 9) (n := 9) hts z_inX2 (hts _ wins_X2)
  obtain ⟨c3, iS3, hKn3⟩ := u_known (C := RX3) (T := TX3) (N := 7) (n := 7) hts z_inX3 (hts _ wins_X3)
  obtain ⟨c4, iS4, hKn4⟩ := u_known (C := RX4) (T := TX4) (N := 7) (n := 7) hts z_inX4 (hts _ wins_X4)
  obtain ⟨c5, iS5, hKn5⟩ := u_known (C := RX5) (T := TX5) (N := 7) (n := 7) hts z_inX5 (hts _ wins_X5)
  obtain ⟨dC, dI, hKc⟩ : ∃ (dC : Nat → ClassId) (dI : Nat → Nat → Nat), ∀ (k : Nat) (q : vw_C), vwCl[k]? = some q → u_Kn s q.1 q.2.1 q.2.2 (dC k) (dI k) := by
    refine ⟨fun k => if k = 0 then c0 else if k = 1 then c1 else if k = 2 then c2 else if k = 3 then c3 else if k = 4 then c4 else c5, fun k => if k = 0 then iS0 else if k = 1 then iS1 else if k = 2 then iS2 else if k = 3 then iS3 else if k = 4 then iS4 else iS5, ?_⟩
    intro k q hq
    match k, hq with
    | 0, hq => cases hq; exact hKn0
    | 1, hq => cases hq; exact hKn1
    | 2, hq => cases hq; exact hKn2
    | 3, hq => cases hq; exact hKn3
    | 4, hq => cases hq; exact hKn4
    | 5, hq => cases hq; exact hKn5
    | k + 6, hq => simp [vwCl] at hq
  obtain ⟨cI, kI, compI, i1, i2, i3⟩ := Cond.arrayClass_spec (hts _ wa_I)
  obtain ⟨cZ, kZ, compZ, j1, j2, j3⟩ := Cond.arrayClass_spec (hts _ wa_Z)
  have hAO : va_AO RX2 s := va_AO.of (hts0 _ (List.mem_append_right _ (List.mem_of_getElem? (i := 82) (by decide +kernel))))
  obtain ⟨compR, cR, kR, r1, r2, r3, r4, r5⟩ := Cond.arrayOver_spec hAO
  have hK : va_K (dC, dI) vwCl [(cI, .int), (cZ, .boolean), (cR, .object RX2)] s := by
    refine ⟨hKc, fun k q hq => ?_⟩
    match k, hq with
    | 0, hq => cases hq; exact ⟨fun n z => ⟨fun k h => (by cases h), kI, i2, compI, i3⟩, i1⟩
    | 1, hq => cases hq; exact ⟨fun n z => ⟨fun k h => (by cases h), kZ, j2, compZ, j3⟩, j1⟩
    | 2, hq => cases hq; exact ⟨fun n z => ⟨fun k h => (by cases h), kR, r3, compR, r4⟩, kR, compR, r3, r4, r1, r5⟩
    | k + 3, hq => simp at hq
  obtain ⟨gs, gt, hSt, hSg⟩ := l_static hgv (hts0 _ (List.mem_append_right _ (List.mem_of_getElem? (i := 24) (by decide +kernel)))) (hts0 _ (List.mem_append_right _ (List.mem_of_getElem? (i := 266) (by decide +kernel)))) (hts _ wi_X5)
  have hNe : k_Ne s := ⟨va_Nw.of rfl (hts0 _ (List.mem_append_right _ (List.mem_of_getElem? (i := 23) (by decide +kernel)))), va_Nw.of rfl (hts0 _ (List.mem_append_right _ (List.mem_of_getElem? (i := 94) (by decide +kernel)))), va_Nw.of rfl (hts0 _ (List.mem_append_right _ (List.mem_of_getElem? (i := 118) (by decide +kernel)))), va_Nw.of rfl (hts0 _ (List.mem_append_right _ (List.mem_of_getElem? (i := 148) (by decide +kernel)))), hAO⟩
  have hd0 := Drawn.sameBut.refl s.drawn lw_cs
  refine W.base ?_
  have hl := lv_entry ([.ref b]) (n := 13) (Nat.le_of_ble_eq_true rfl)
  rw [lg_entry_eq]
  generalize (lg_sl ([.ref b]) ++ List.replicate (13 - (lg_sl ([.ref b])).length) Slot.unset).toArray = ls at hl ⊢
  have hl : lv_has ls 13 [(0, .ref b)] := hl
  obtain ⟨C, hC⟩ : ∃ C : zC, C = (p, l, e, room_1, s.setDrawn s.drawn, m, #[Value.ref b], below, meth, c, lw_Z below #[Value.ref b] s, 0, 0, l_A s, s.heap, 13, (0, fun _ => 0, cI, cZ, cR, (dC, dI))) := ⟨_, rfl⟩
  have hk : kl_ok C cL_law RL gs := by
    rw [hC]
    exact ⟨hx, hb, hml, hown, dr_words hts _, hK, fun q h => h, rfl, trivial, hNe, hSt⟩
  have hR : z_R C = room_1 := by rw [hC]
  have hn : C.2.2.2.2.2.2.2.2.2.2.2.2.2.2.2.1 = 13 := by rw [hC]
  have key : k_W C [] 0 0 0 [(0, .ref b)] [] := by
    refine kl_new hk (ci := 5) rfl z_inX5 tyX5 tyX5_ok wcl_L_10 wins_X5 wi_X5 [.null, .int 0, .null, .null, .null, .null, .null] (fun j hj => by rcases (show j = 0 ∨ j = 1 ∨ j = 2 ∨ j = 3 ∨ j = 4 ∨ j = 5 ∨ j = 6 by omega) with rfl | rfl | rfl | rfl | rfl | rfl | rfl <;> rfl) (by rw [hR]; exact ⟨Nat.le_of_ble_eq_true rfl, Nat.le_of_ble_eq_true rfl⟩) dL_law_0 (fun q1 => ?_)
    refine kl_dup hk dL_law_3 rfl ?_
    refine kl_call hk (wr := []) (met_X5_init (z_l C) (z_g C) gs q1) (Or.inl wm_L_90) win_X5_init wi_X5 wc_X5_init rfl (by decide +kernel) (by rw [hR]; exact ⟨⟨Nat.le_of_ble_eq_true rfl, Nat.le_of_ble_eq_true rfl⟩, Nat.le_of_ble_eq_true rfl, Nat.le_of_ble_eq_true rfl⟩) 0 [] rfl rfl (by decide) (by decide) (Nat.le_of_ble_eq_true rfl) dL_law_4 (fun u1 => ?_)
    refine kl_astore_n hk hn (lv' := [(1, .ref q1), (0, .ref b)]) dL_law_7 (by decide) rfl ?_
    subst hC
    intro H locs ls hP hD hS hl
    have hP : va_P (dC, dI) vwCl (z_w (0, fun k => if k = 62 then q1 else u1 k, cI, cZ, cR, (dC, dI)) z_s0) H := hP
    have hD : va_D (l_A s) (z_w (0, fun k => if k = 62 then q1 else u1 k, cI, cZ, cR, (dC, dI)) z_s0) := hD
    obtain ⟨gC, hgC⟩ : ∃ gC : zG, gC = (0, fun k => if k = 62 then q1 else u1 k, cI, cZ, cR, (dC, dI)) := ⟨_, rfl⟩
    have hl : lv_has ls 13 [(1, .ref (z_ad gC 62)), (0, .ref b)] := by rw [hgC]; exact hl
    have hK1 : va_K gC.2.2.2.2.2 vwCl (z_tys gC) s := by rw [hgC]; exact hK
    have hC1 : gC.1 = 0 := by rw [hgC]
    rw [← hgC] at hP hD
    have hP : va_P gC.2.2.2.2.2 vwCl (z_w gC z_s0) H := by rw [hgC] at hP ⊢; exact hP
    refine W.widen (k := 600000) (n := 7302250) (Nat.le_of_ble_eq_true rfl) (Nat.le_of_ble_eq_true rfl) ?_
    obtain ⟨τ, hτ⟩ := L_law (E := (gt, b, L, xs)) hL
    have hok : y_ok (p, l, e, room_1, s, m, #[Value.ref b], below, meth, c, lw_Z below #[Value.ref b] s, 600000, 7302250, l_A s, s.heap, 13, gC) cL_law RL (gt, b, L, xs) := ⟨fun d => ⟨hx, hb, hml, hown, dr_words hts d, hK1, fun τ => z_wd_D hD, fun q h => h, hC1, Nat.le_of_ble_eq_true rfl, Nat.le_of_ble_eq_true rfl, rfl⟩, hSg, hX, hbl, fun h => absurd hbl (Nat.not_lt.mpr h), hL⟩
    refine w_L_law hok rfl rfl (fun pc hdc σ d hd lv H locs ls hP hS hl => ?_) z_s0 hτ s.drawn hd0 H locs ls hP hS (lv_sub hl [1, 0] rfl)
    refine va_forget (s := s.setDrawn d) (fun q hq => hS.2.2 q hq) ?_
    exact lw_ret hd hx hb hr hlocks hdc
  subst hC
  exact key s.heap [] ls (fun k q h => by simp at h) ⟨fun i j p q h => by simp at h, fun k q h => by simp at h⟩ va_S.rf hl
