/-! EACH CALL OF THE CLASS: what it answers, what is kept then -/
/-- the call answers r, and A is kept then -/
def s_to (o : Option (Int × zS)) (r : Int) (A : zA) : Prop := ∃ σ', o = some (r, σ') ∧ a_C σ' A
theorem a_keep_top (hn : Int) (hs : Int → zV) (V : zV) (h : 0 ≤ hn ∧ hn ≤ 4) : 0 < (a_keep hn hs V).1 ∧ (a_keep hn hs V).2 ((a_keep hn hs V).1 - 1) = V := by
  unfold a_keep
  by_cases a : hn < 4
  · rw [if_pos a]
    refine ⟨by show 0 < hn + 1; omega, ?_⟩
    show (if hn + 1 - 1 = hn then V else hs (hn + 1 - 1)) = V
    rw [if_pos (by omega)]
  · rw [if_neg a]
    refine ⟨by show (0 : Int) < 4; omega, ?_⟩
    show (if (4 : Int) - 1 = 3 then V else hs ((4 : Int) - 1 + 1)) = V
    rw [if_pos (by omega)]
/-- what is kept behind an act: the recording is V then -/
abbrev a_act (A : zA) (V : zV) : zA := (a_n A, a_t A, V, (a_keep (a_h A) (a_s A) (a_V A)).1, (a_keep (a_h A) (a_s A) (a_V A)).2)
theorem a_act_ok {A : zA} (hA : a_ok A) {V : zV} (hV : v_ok V) : a_ok (a_act A V) := ⟨hA.1, hV, a_keep_ok hA.2.2 hA.2.1⟩
/-- what is kept behind an undo -/
abbrev a_un (A : zA) : zA := (a_n A, a_t A, a_s A (a_h A - 1), a_h A - 1, a_s A)
theorem a_un_ok {A : zA} (hA : a_ok A) (h0 : 0 < a_h A) : a_ok (a_un A) := by
  have hh := hA.2.2.1
  refine ⟨hA.1, hA.2.2.2 (a_h A - 1) (by omega) (by omega), ⟨by show 0 ≤ a_h A - 1 ∧ a_h A - 1 ≤ 4; omega, fun i i0 i1 => hA.2.2.2 i i0 (by have i1 : i < a_h A - 1 := i1; omega)⟩⟩
theorem a_un_act {A : zA} (hA : a_ok A) (V : zV) : 0 < a_h (a_act A V) ∧ a_V (a_un (a_act A V)) = a_V A := a_keep_top (a_h A) (a_s A) (a_V A) hA.2.2.1
theorem s_keep {A : zA} {σ : zS} (hA : a_ok A) (hC : a_C σ A) : ∃ σ', f_X1_keep 0 σ = some ((), σ') ∧ a_C σ' (a_act A (a_V A)) := by
  obtain ⟨⟨hn, ht⟩, hV, hh⟩ := hA
  obtain ⟨σ', s1, s2, s3⟩ := c_keep hC.2.2 hh hC.2.1 hV
  exact ⟨σ', s1, c_T_of hC.1 (s3 62 (by omega)) (s3 63 (by omega)), v_C_out hC.2.1 s3 (by omega), s2⟩
-- undo
theorem s_undo0 {A : zA} {σ : zS} (hC : a_C σ A) (h : a_h A = 0) : f_X5_undo σ = some (-9, σ) := by
  have c1 := hC.2.2.1
  unfold f_X5_undo
  rw [c1, if_pos (by unfold zr; omega), if_neg (by omega)]
theorem s_undo {A : zA} {σ : zS} (hA : a_ok A) (hC : a_C σ A) (h0 : 0 < a_h A) : s_to (f_X5_undo σ) (a_h A - 1) (a_un A) := by
  have hh := hA.2.2
  have c1 := hC.2.2.1
  obtain ⟨σ', s1, s2, s3, s4⟩ := c_restore hC.2.2 hh h0
  refine ⟨σ', ?_, ⟨c_T_of hC.1 (s4 62 (by omega)) (s4 63 (by omega)), s2, s3⟩⟩
  unfold f_X5_undo
  rw [c1, if_pos (by have := hh.1; unfold zr; omega), if_pos (by omega), s1, z_bd, s3.1]
-- type with a wrong character
theorem s_typeBad {σ : zS} {x : Int} (hx : zr x) (a : ¬ (32 ≤ x ∧ x ≤ 126)) : f_X5_type σ x = some (-1, σ) := by
  unfold f_X5_type f_X5_type_b12
  by_cases b : x < 32
  · rw [if_pos hx, if_pos b]
  · rw [if_pos hx, if_neg b, if_pos hx, if_neg (by omega)]
-- append
theorem s_appendBad {σ : zS} {x y : Int} (hx : zr x) (hy : zr y) (a : ¬ ((0 ≤ x ∧ x ≤ 9) ∧ 1 ≤ y ∧ y ≤ 200)) : f_X5_append σ x y = some (-1, σ) := by
  unfold f_X5_append f_X5_append_b22
  by_cases b : 0 ≤ x ∧ x ≤ 9
  · rw [if_pos hx, if_neg (by omega), if_pos hx, if_neg (by omega), if_pos hy]
    by_cases c : y < 1
    · rw [if_pos c]
    · rw [if_neg c, if_pos hy, if_neg (by omega)]
  · by_cases c : x < 0
    · rw [if_pos hx, if_pos c]
    · rw [if_pos hx, if_neg c, if_pos hx, if_pos (by omega)]
theorem s_appendFull {A : zA} {σ : zS} {x y : Int} (hA : a_ok A) (hC : a_C σ A) (hx : 0 ≤ x ∧ x ≤ 9) (hy : 1 ≤ y ∧ y ≤ 200) (c : 200 < v_F (a_V A) + y) : f_X5_append σ x y = some (-3, σ) := by
  have hF := hA.2.1.1
  have h1 := (v_C0 hC.2.1).1
  unfold f_X5_append
  rw [if_pos (by unfold zr; omega), if_neg (by omega), if_pos (by unfold zr; omega), if_neg (by omega), if_pos (by unfold zr; omega), if_neg (by omega), if_pos (by unfold zr; omega), if_pos (by omega), h1, if_pos (by unfold zr; omega), if_neg (by omega)]
theorem s_append_l {A : zA} {l c : Int} (hl : 0 ≤ l ∧ l ≤ 9) (hc : c ≤ 200) (hn : 0 ≤ a_n A ∧ a_n A ≤ 120) (ht : ∀ i, 0 ≤ i → i < a_n A → 32 ≤ a_t A i ∧ a_t A i ≤ 126) (hh : h_ok (a_h A) (a_s A)) : ∀ (n f : Nat) (i : Int) (V : zV) (σ : zS), n < f → 0 ≤ i → i + n = c → v_ok V → v_F V + n ≤ 200 → a_C σ (a_n A, a_t A, V, a_h A, a_s A) → ∃ V' : zV, (v_F V' = v_F V + n ∧ v_M V' = v_M V ∧ v_K V' = v_K V ∧ v_S V' = v_S V) ∧ v_ok V' ∧ s_to (f_X5_append_l55 f σ l c i) (v_F V') (a_n A, a_t A, V', a_h A, a_s A) := by
  intro n
  induction n with
  | zero =>
    intro f i V σ hf i0 hi hV hF hC
    obtain ⟨f, rfl⟩ : ∃ k, f = k + 1 := ⟨f - 1, by omega⟩
    refine ⟨V, ⟨by omega, rfl, rfl, rfl⟩, hV, σ, ?_, hC⟩
    unfold f_X5_append_l55 f_X5_append_b55
    rw [if_pos (by unfold zr; omega), if_pos (by omega), (v_C0 hC.2.1).1]
  | succ n ih =>
    intro f i V σ hf i0 hi hV hF hC
    obtain ⟨f, rfl⟩ : ∃ k, f = k + 1 := ⟨f - 1, by omega⟩
    have h0 := hV.1
    obtain ⟨σ', s1, s2, s3⟩ := c_addFrame (l := l) hC.2.1 hV (by show v_F V < 200; omega)
    have s4 := z_out01 s3
    obtain ⟨V', ⟨e1, e2, e3, e4⟩, o1, o2⟩ := ih f (i + 1) (v_push V l) σ' (by omega) (by omega) (by omega) (v_push_ok hV (by omega) hl) (by show v_F V + 1 + n ≤ 200; omega) ⟨c_T_of hC.1 (s4 62 (by omega)) (s4 63 (by omega)), s2, c_H_of hC.2.2 hh.1.2 (fun a ha => s4 a (by omega))⟩
    have e1 : v_F V' = v_F V + 1 + n := e1
    refine ⟨V', ⟨by omega, e2, e3, e4⟩, o1, ?_⟩
    have fC : f_X5_append_l55 (f + 1) σ l c i = f_X5_append_l55 f σ' l c (i + 1) := by
      show f_X5_append_b55 (f_X5_append_l55 f) σ l c i = _
      unfold f_X5_append_b55
      rw [if_pos (by unfold zr; omega), if_neg (by omega), s1, z_bd]
    rw [fC]
    exact o2
theorem s_append {A : zA} {σ : zS} {x y : Int} (hA : a_ok A) (hC : a_C σ A) (hx : 0 ≤ x ∧ x ≤ 9) (hy : 1 ≤ y ∧ y ≤ 200) (c : v_F (a_V A) + y ≤ 200) : ∃ V' : zV, (v_F V' = v_F (a_V A) + y ∧ v_M V' = v_M (a_V A) ∧ v_K V' = v_K (a_V A) ∧ v_S V' = v_S (a_V A)) ∧ v_ok V' ∧ s_to (f_X5_append σ x y) (v_F V') (a_act A V') := by
  obtain ⟨σ', s1, hC'⟩ := s_keep hA hC
  have hF := hA.2.1.1
  have h1 := (v_C0 hC.2.1).1
  obtain ⟨V', e1, e2, e3⟩ := s_append_l (A := a_act A (a_V A)) (l := x) (c := y) hx hy.2 hA.1.1 hA.1.2 (a_keep_ok hA.2.2 hA.2.1) y.toNat z_fuel 0 (a_V A) σ' (by unfold z_fuel; omega) (by omega) (by omega) hA.2.1 (by omega) hC'
  refine ⟨V', ⟨by omega, e1.2⟩, e2, ?_⟩
  have fC : f_X5_append σ x y = f_X5_append_l55 z_fuel σ' x y 0 := by
    unfold f_X5_append
    rw [if_pos (by unfold zr; omega), if_neg (by omega), if_pos (by unfold zr; omega), if_neg (by omega), if_pos (by unfold zr; omega), if_neg (by omega), if_pos (by unfold zr; omega), if_pos (by omega), h1, if_pos (by unfold zr; omega), if_pos c, s1, z_bd]
  rw [fC]
  exact e3
-- babble
theorem s_babbleBad {σ : zS} {x y : Int} (hy : zr y) (a : ¬ (1 ≤ y ∧ y ≤ 200)) : f_X5_babble σ x y = some (-1, σ) := by
  unfold f_X5_babble f_X5_babble_b12
  rw [if_pos hy]
  by_cases c : y < 1
  · rw [if_pos c]
  · rw [if_neg c, if_pos hy, if_neg (by omega)]
theorem s_babble_l {A : zA} {c : Int} (hc : c ≤ 200) (hn : 0 ≤ a_n A ∧ a_n A ≤ 120) (ht : ∀ i, 0 ≤ i → i < a_n A → 32 ≤ a_t A i ∧ a_t A i ≤ 126) (hh : h_ok (a_h A) (a_s A)) : ∀ (n f : Nat) (y i : Int) (V : zV) (σ : zS), n < f → 0 ≤ i → i + n = c → v_ok V → v_F V + n ≤ 200 → a_C σ (a_n A, a_t A, V, a_h A, a_s A) → ∃ V' : zV, (v_F V' = v_F V + n ∧ v_M V' = v_M V ∧ v_K V' = v_K V ∧ v_S V' = v_S V) ∧ v_ok V' ∧ s_to (f_X5_babble_l48 f σ c y i) (v_F V') (a_n A, a_t A, V', a_h A, a_s A) := by
  intro n
  induction n with
  | zero =>
    intro f y i V σ hf i0 hi hV hF hC
    obtain ⟨f, rfl⟩ : ∃ k, f = k + 1 := ⟨f - 1, by omega⟩
    refine ⟨V, ⟨by omega, rfl, rfl, rfl⟩, hV, σ, ?_, hC⟩
    unfold f_X5_babble_l48 f_X5_babble_b48
    rw [if_pos (by unfold zr; omega), if_pos (by omega), (v_C0 hC.2.1).1]
  | succ n ih =>
    intro f y i V σ hf i0 hi hV hF hC
    obtain ⟨f, rfl⟩ : ∃ k, f = k + 1 := ⟨f - 1, by omega⟩
    have h0 := hV.1
    have us := z_us (1103515245 * y + 12345)
    have hl := z_us10 (1103515245 * y + 12345)
    obtain ⟨l, hle⟩ : ∃ l, l = (z_ushr (1103515245 * y + 12345) 16).tmod 10 := ⟨_, rfl⟩
    rw [← hle] at hl
    obtain ⟨σ', s1, s2, s3⟩ := c_addFrame (l := l) hC.2.1 hV (by show v_F V < 200; omega)
    have s4 := z_out01 s3
    obtain ⟨V', ⟨e1, e2, e3, e4⟩, o1, o2⟩ := ih f (1103515245 * y + 12345) (i + 1) (v_push V l) σ' (by omega) (by omega) (by omega) (v_push_ok hV (by omega) hl) (by show v_F V + 1 + n ≤ 200; omega) ⟨c_T_of hC.1 (s4 62 (by omega)) (s4 63 (by omega)), s2, c_H_of hC.2.2 hh.1.2 (fun a ha => s4 a (by omega))⟩
    have e1 : v_F V' = v_F V + 1 + n := e1
    refine ⟨V', ⟨by omega, e2, e3, e4⟩, o1, ?_⟩
    have fC : f_X5_babble_l48 (f + 1) σ c y i = f_X5_babble_l48 f σ' c (1103515245 * y + 12345) (i + 1) := by
      show f_X5_babble_b48 (f_X5_babble_l48 f) σ c y i = _
      unfold f_X5_babble_b48
      rw [if_pos (by unfold zr; omega), if_neg (by omega), if_pos (by unfold zr; omega), ← hle, s1, z_bd]
    rw [fC]
    exact o2
theorem s_babble {A : zA} {σ : zS} {x y : Int} (hA : a_ok A) (hC : a_C σ A) (hy : 1 ≤ y ∧ y ≤ 200) (c : v_F (a_V A) + y ≤ 200) : ∃ V' : zV, (v_F V' = v_F (a_V A) + y ∧ v_M V' = v_M (a_V A) ∧ v_K V' = v_K (a_V A) ∧ v_S V' = v_S (a_V A)) ∧ v_ok V' ∧ s_to (f_X5_babble σ x y) (v_F V') (a_act A V') := by
  obtain ⟨σ', s1, hC'⟩ := s_keep hA hC
  have hF := hA.2.1.1
  have h1 := (v_C0 hC.2.1).1
  obtain ⟨V', e1, e2, e3⟩ := s_babble_l (A := a_act A (a_V A)) (c := y) hy.2 hA.1.1 hA.1.2 (a_keep_ok hA.2.2 hA.2.1) y.toNat z_fuel x 0 (a_V A) σ' (by unfold z_fuel; omega) (by omega) (by omega) hA.2.1 (by omega) hC'
  refine ⟨V', ⟨by omega, e1.2⟩, e2, ?_⟩
  have fC : f_X5_babble σ x y = f_X5_babble_l48 z_fuel σ' y x 0 := by
    unfold f_X5_babble
    rw [if_pos (by unfold zr; omega), if_neg (by omega), if_pos (by unfold zr; omega), if_pos (by omega), h1, if_pos (by unfold zr; omega), if_pos c, s1, z_bd]
  rw [fC]
  exact e3
-- level
theorem s_level {A : zA} {σ : zS} {x : Int} (hA : a_ok A) (hC : a_C σ A) (hx : 0 ≤ x ∧ x < v_F (a_V A)) : f_X5_level σ x = some (v_L (a_V A) x, σ) := by
  have hF := hA.2.1.1
  have h := c_hasFrame hC.2.1 hA.2.1 (x := x) (by unfold zr; omega)
  have hl := c_levelAt hC.2.1 hA.2.1 (x := x) (by unfold zr; omega)
  unfold q_lv at hl
  rw [if_pos hx] at h hl
  unfold f_X5_level
  rw [h, z_bd, if_pos (by decide), if_pos (by omega), hl, z_bd]
theorem s_levelBad {A : zA} {σ : zS} {x : Int} (hA : a_ok A) (hC : a_C σ A) (hx : zr x) (a : ¬ (0 ≤ x ∧ x < v_F (a_V A))) : f_X5_level σ x = some (-1, σ) := by
  have h := c_hasFrame hC.2.1 hA.2.1 hx
  rw [if_neg a] at h
  unfold f_X5_level
  rw [h, z_bd, if_pos (by decide), if_neg (by omega)]
-- hold
theorem s_holdBad {A : zA} {σ : zS} {m y : Int} (hA : a_ok A) (hC : a_C σ A) (hm : zr m) (a : ¬ (0 ≤ m ∧ m < v_M (a_V A))) : f_X5_hold σ m y = some (-1, σ) := by
  have h := c_hasMark hC.2.1 hA.2.1 hm
  rw [if_neg a] at h
  unfold f_X5_hold
  rw [h, z_bd, if_pos (by decide), if_neg (by omega)]
theorem s_hold {A : zA} {σ : zS} {m y : Int} (hA : a_ok A) (hC : a_C σ A) (a : 0 ≤ m ∧ m < v_M (a_V A)) (hy : 0 ≤ y ∧ y ≤ 1) : s_to (f_X5_hold σ m y) (v_K (a_V A) 4 m) (a_act A (v_hold (a_V A) m y)) := by
  obtain ⟨σ', s1, hC'⟩ := s_keep hA hC
  have hV := hA.2.1
  have hMk := hV.2.1
  have hh := a_keep_ok hA.2.2 hA.2.1
  have h := c_hasMark hC.2.1 hV (x := m) (by unfold zr; omega)
  rw [if_pos a] at h
  have hk := hV.2.2.2.1 m a.1 a.2
  unfold v_mok at hk
  obtain ⟨g0, g1, g2, g3, g4⟩ := (v_C0 hC'.2.1).2.2.2.1 m a.1 a.2
  refine ⟨z_up σ' 6 m y, ?_, ⟨c_T_of hC'.1 (by funext b; rw [z_rn (by omega)]) (by funext b; rw [z_rn (by omega)]), ?_, c_H_of hC'.2.2 hh.1.2 (fun a ha => by funext b; rw [z_rn (by omega)])⟩⟩
  · unfold f_X5_hold f_X5_hold_b41
    have g4 : σ' 6 m = v_K (a_V A) 4 m := g4
    rw [h, z_bd, if_pos (by decide), if_pos (by omega), s1, z_bd, if_pos (by omega), g4, if_pos (by unfold zr; omega)]
    by_cases e : v_K (a_V A) 4 m = 0
    · rw [if_pos e, if_pos (by omega), z_put, e]
    · rw [if_neg e, if_pos (by omega), z_put, show v_K (a_V A) 4 m = 1 by omega]
  · obtain ⟨f1, f2, f3, f4, f5⟩ := v_C0 hC'.2.1
    refine ⟨by rw [z_rn (by omega)]; exact f1, by rw [z_rn (by omega)]; exact f2, fun i i0 i1 => by rw [z_rn (by omega)]; exact f3 i i0 i1, fun i i0 i1 => ?_, fun i i0 i1 => by rw [z_rn (by omega)]; exact f5 i i0 i1⟩
    obtain ⟨e0, e1, e2, e3, e4⟩ := f4 i i0 i1
    rw [z_rn (by omega), z_rn (by omega), z_rn (by omega), z_rn (by omega)]
    rw [v_hold_ne (by omega), v_hold_ne (by omega), v_hold_ne (by omega), v_hold_ne (by omega), v_hold_K]
    refine ⟨e0, e1, e2, e3, ?_⟩
    by_cases e : i = m
    · rw [if_pos ⟨rfl, e⟩, e, z_re]
    · rw [if_neg (fun h => e h.2), z_ri e]; exact e4
-- unmark
theorem s_unmarkBad {A : zA} {σ : zS} {m : Int} (hA : a_ok A) (hC : a_C σ A) (hm : zr m) (a : ¬ (0 ≤ m ∧ m < v_M (a_V A))) : f_X5_unmark σ m = some (-1, σ) := by
  have h := c_hasMark hC.2.1 hA.2.1 hm
  rw [if_neg a] at h
  unfold f_X5_unmark
  rw [h, z_bd, if_pos (by decide), if_neg (by omega)]
theorem s_unmark {A : zA} {σ : zS} {m : Int} (hA : a_ok A) (hC : a_C σ A) (a : 0 ≤ m ∧ m < v_M (a_V A)) : s_to (f_X5_unmark σ m) (v_M (a_V A) - 1) (a_act A (v_del (a_V A) m)) := by
  obtain ⟨σ', s1, hC'⟩ := s_keep hA hC
  have hV := hA.2.1
  have hMk := hV.2.1
  have hh := a_keep_ok hA.2.2 hA.2.1
  have h := c_hasMark hC.2.1 hV (x := m) (by unfold zr; omega)
  rw [if_pos a] at h
  obtain ⟨σ2, c1, c2, c3⟩ := c_remove (V := a_V A) hC'.2.1 hV a.1 a.2
  refine ⟨σ2, ?_, ⟨c_T_of hC'.1 (c3 62 (by omega)) (c3 63 (by omega)), c2, c_H_of hC'.2.2 hh.1.2 (fun a ha => c3 a (by omega))⟩⟩
  unfold f_X5_unmark
  have c27 : σ2 0 7 = v_M (a_V A) - 1 := c2.2.1
  rw [h, z_bd, if_pos (by decide), if_pos (by omega), s1, z_bd, c1, z_bd, c27]
-- mark
theorem s_markBad {A : zA} {σ : zS} {k f t d : Int} (hA : a_ok A) (hC : a_C σ A) (hk : zr k) (hf : zr f) (ht : zr t) (hd : zr d) (a : ¬ ((0 ≤ k ∧ k ≤ 3) ∧ (0 ≤ d ∧ d ≤ 100) ∧ 0 ≤ f ∧ f < t ∧ t ≤ v_F (a_V A))) : f_X5_mark σ k f t d = some (-1, σ) := by
  have hV := hA.2.1
  have hF := hV.1
  have h1 := (v_C0 hC.2.1).1
  have hkk := hk
  have hff := hf
  have htt := ht
  have hdd := hd
  unfold zr at hkk hff htt hdd
  unfold f_X5_mark f_X5_mark_b21 f_X5_mark_b43
  rw [if_pos hk]
  by_cases b1 : k < 0
  · rw [if_pos b1]
  · rw [if_neg b1, if_pos hk]
    by_cases b2 : 3 < k
    · rw [if_pos b2]
    · rw [if_neg b2, if_pos hd]
      by_cases b3 : d < 0
      · rw [if_pos b3]
      · rw [if_neg b3, if_pos hd]
        by_cases b4 : d ≤ 100
        · rw [if_pos b4, if_pos hf]
          by_cases b5 : f < 0
          · rw [if_pos b5]
          · rw [if_neg b5, h1, if_pos (by unfold zr; omega)]
            by_cases b6 : v_F (a_V A) < t
            · rw [if_pos b6]
            · rw [if_neg b6, if_pos (by unfold zr; omega), if_neg (by omega)]
        · rw [if_neg b4]
theorem s_mark0 {A : zA} {σ : zS} {k f t d : Int} (hA : a_ok A) (hC : a_C σ A) (a : (0 ≤ k ∧ k ≤ 3) ∧ (0 ≤ d ∧ d ≤ 100) ∧ 0 ≤ f ∧ f < t ∧ t ≤ v_F (a_V A)) : f_X5_mark σ k f t d = (if zr (q_ov (a_V A) f t (v_M (a_V A)).toNat) then if q_ov (a_V A) f t (v_M (a_V A)).toNat = 0 then if zr (σ 0 7) then if (σ 0 7) < 20 then z_bind (f_X1_keep 0 σ) fun _ σ3 => z_bind (f_X2_addMark 0 σ3 k f t d) fun r5 σ4 => some (r5, σ4) else some ((-3), σ) else none else some ((-2), σ) else none) := by
  have hV := hA.2.1
  have hF := hV.1
  have h1 := (v_C0 hC.2.1).1
  obtain ⟨a1, a2, a3, a4, a5⟩ := a
  have ho := c_overlaps hC.2.1 hV (a := f) (b := t) (by omega) (by omega)
  unfold f_X5_mark
  rw [if_pos (by unfold zr; omega), if_neg (by omega), if_pos (by unfold zr; omega), if_neg (by omega), if_pos (by unfold zr; omega), if_neg (by omega), if_pos (by unfold zr; omega), if_pos (by omega), if_pos (by unfold zr; omega), if_neg (by omega), h1, if_pos (by unfold zr; omega), if_neg (by omega), if_pos (by unfold zr; omega), if_pos a4, ho, z_bd]
theorem s_markState {A : zA} {σ : zS} {k f t d : Int} (hA : a_ok A) (hC : a_C σ A) (a : (0 ≤ k ∧ k ≤ 3) ∧ (0 ≤ d ∧ d ≤ 100) ∧ 0 ≤ f ∧ f < t ∧ t ≤ v_F (a_V A)) (b : ¬ q_ov (a_V A) f t (v_M (a_V A)).toNat = 0) : f_X5_mark σ k f t d = some (-2, σ) := by
  have hoo := q_ov_ok (a_V A) f t (v_M (a_V A)).toNat
  rw [s_mark0 hA hC a, if_pos (by unfold zr; omega), if_neg b]
theorem s_mark {A : zA} {σ : zS} {k f t d : Int} (hA : a_ok A) (hC : a_C σ A) (a : (0 ≤ k ∧ k ≤ 3) ∧ (0 ≤ d ∧ d ≤ 100) ∧ 0 ≤ f ∧ f < t ∧ t ≤ v_F (a_V A)) (b : q_ov (a_V A) f t (v_M (a_V A)).toNat = 0) (c : v_M (a_V A) < 20) : q_pl2 (a_V A) f t (q_at (a_V A) f (v_M (a_V A)).toNat) (v_M (a_V A)) ∧ v_ok (v_ins (a_V A) (q_at (a_V A) f (v_M (a_V A)).toNat) k f t d) ∧ s_to (f_X5_mark σ k f t d) (q_at (a_V A) f (v_M (a_V A)).toNat) (a_act A (v_ins (a_V A) (q_at (a_V A) f (v_M (a_V A)).toNat) k f t d)) := by
  have hV := hA.2.1
  have hMk := hV.2.1
  have hF := hV.1
  have hh := a_keep_ok hA.2.2 hA.2.1
  have h7c := (v_C0 hC.2.1).2.1
  obtain ⟨σ', s1, hC'⟩ := s_keep hA hC
  have hp := q_at_ok hV a.2.2.2.1 (v_M (a_V A)).toNat (by omega) b
  rw [show (((v_M (a_V A)).toNat : Nat) : Int) = v_M (a_V A) by omega] at hp
  obtain ⟨σ2, c1, c2, c3⟩ := c_addMark (k := k) (d := d) hC'.2.1 hV c hp ⟨a.2.2.1, a.2.2.2.1, a.2.2.2.2⟩
  refine ⟨hp, v_ins_ok hV c hp a.1 ⟨a.2.2.1, a.2.2.2.1, a.2.2.2.2⟩ a.2.1, σ2, ?_, ⟨c_T_of hC'.1 (c3 62 (by omega)) (c3 63 (by omega)), c2, c_H_of hC'.2.2 hh.1.2 (fun a ha => c3 a (by omega))⟩⟩
  rw [s_mark0 hA hC a, if_pos (by unfold zr; omega), if_pos b, h7c, if_pos (by unfold zr; omega), if_pos c, s1, z_bd, c1, z_bd]
-- set
theorem s_setBad {σ : zS} {x y : Int} (hx : zr x) (hy : zr y) (a : ¬ ((0 ≤ x ∧ x ≤ 6) ∧ 0 ≤ y ∧ y ≤ z_most x)) : f_X5_set σ x y = some (-1, σ) := by
  have hg := z_most_le x
  have hz : zr (z_most x) := by unfold zr; omega
  unfold f_X5_set f_X5_set_b25 f_X5_set_b10
  by_cases b : 0 ≤ x ∧ x ≤ 6
  · by_cases c : y < 0
    · rw [if_pos hx, if_neg (by omega), if_pos hx, if_pos (by omega), if_pos hy, if_pos c]
    · rw [if_pos hx, if_neg (by omega), if_pos hx, if_pos (by omega), if_pos hy, if_neg c, if_pos (by omega), if_pos ⟨hy, hz⟩, if_neg (by omega)]
  · by_cases c : x < 0
    · rw [if_pos hx, if_pos c]
    · rw [if_pos hx, if_neg c, if_pos hx, if_neg (by omega)]
theorem s_set {A : zA} {σ : zS} {x y : Int} (hA : a_ok A) (hC : a_C σ A) (hx : 0 ≤ x ∧ x ≤ 6) (hy : 0 ≤ y ∧ y ≤ z_most x) : s_to (f_X5_set σ x y) (v_S (a_V A) x) (a_act A (v_set (a_V A) x y)) := by
  obtain ⟨σ', s1, hC'⟩ := s_keep hA hC
  have hV := hA.2.1
  have hg := z_most_le x
  have hh := a_keep_ok hA.2.2 hA.2.1
  have hS := (v_C0 hC'.2.1).2.2.2.2 x hx.1 (by omega)
  refine ⟨z_up σ' 7 x y, ?_, ⟨c_T_of hC'.1 (by funext b; rw [z_rn (by omega)]) (by funext b; rw [z_rn (by omega)]), ?_, c_H_of hC'.2.2 hh.1.2 (fun a ha => by funext b; rw [z_rn (by omega)])⟩⟩
  · unfold f_X5_set
    have hS : σ' 7 x = v_S (a_V A) x := hS
    rw [if_pos (by unfold zr; omega), if_neg (by omega), if_pos (by unfold zr; omega), if_pos (by omega), if_pos (by unfold zr; omega), if_neg (by omega), if_pos (by omega), if_pos (by unfold zr; omega), if_pos hy.2, s1, z_bd, if_pos (by omega), if_pos (by omega), z_put, hS]
  · obtain ⟨f1, f2, f3, f4, f5⟩ := v_C0 hC'.2.1
    refine ⟨by rw [z_rn (by omega)]; exact f1, by rw [z_rn (by omega)]; exact f2, fun i i0 i1 => by rw [z_rn (by omega)]; exact f3 i i0 i1, fun i i0 i1 => ?_, fun i i0 i1 => ?_⟩
    · rw [z_rn (by omega), z_rn (by omega), z_rn (by omega), z_rn (by omega), z_rn (by omega)]; exact f4 i i0 i1
    · show z_up σ' 7 x y 7 i = if i = x then y else v_S (a_V A) i
      by_cases e : i = x
      · rw [if_pos e, e, z_re]
      · rw [if_neg e, z_ri e]; exact f5 i i0 i1
