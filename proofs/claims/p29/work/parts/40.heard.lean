/-! LENGTH, HEARD, WHERE, CLICKS, SILENCE -/
abbrev q_P (V : zV) : zP := q_res V (q_C V)
theorem q_Pok {V : zV} (hV : v_ok V) : q_pok V (q_P V) (v_F V) := q_res_ok hV (q_kok hV _ _)
theorem c_res {σ : zS} {V : zV} (hC : v_C σ 0 V) (hV : v_ok V) : ∃ σ', f_X5_currentResult σ = some ((), σ') ∧ r_P σ' (q_P V) ∧ r_C σ' (q_C V) ∧ z_out 48 58 σ σ' := by
  have s0 := (v_C0 hC).2.2.2.2 0 (by omega) (by omega)
  have s2 := (v_C0 hC).2.2.2.2 2 (by omega) (by omega)
  have hM := hV.2.1
  obtain ⟨σ1, t1, t2, t3⟩ := c_find hC hV hV.2.2.2.2.2.1 hV.2.2.2.2.2.2.2.1
  obtain ⟨σ2, u1, u2, u3, u4⟩ := c_build hV (v_C_out hC t3 (by omega)) t2 (q_kok hV _ _) hM.2
  refine ⟨σ2, ?_, u2, u3, fun a ha => (u4 a (by omega)).trans (t3 a (by omega))⟩
  unfold f_X5_currentResult
  rw [if_pos (by omega), if_pos (by omega), s0, s2, t1, z_bd, u1, z_bd]
theorem a_C58 {σ σ' : zS} {A : zA} (hA : a_ok A) (hC : a_C σ A) (h : z_out 48 58 σ σ') : a_C σ' A := a_C_of hA hC (fun a ha => h a (by omega))
/-- the first place of a source, from i on, in n turns -/
def q_wh (r : zP) (f : Int) : Nat → Int → Int
  | 0, _ => -9
  | n + 1, i => if r.2.1 i = f then i else q_wh r f n (i + 1)
theorem q_wh_none {r : zP} {f : Int} : ∀ (n : Nat) (i : Int), (∀ k, i ≤ k → k < i + n → r.2.1 k ≠ f) → q_wh r f n i = -9 := by
  intro n
  induction n with
  | zero => intro i _; rfl
  | succ n ih =>
    intro i h
    unfold q_wh
    rw [if_neg (h i (by omega) (by omega))]
    exact ih (i + 1) (fun k h0 h1 => h k (by omega) (by omega))
theorem c_place_l {σ : zS} {V : zV} {r : zP} {b x : Int} (hs : r_P σ r) (hr : q_pok V r b) (hb : b ≤ 200) (hx : zr x) : ∀ (n f : Nat) (i : Int), n < f → 0 ≤ i → i + n = r.1 → f_X3_placeOfSource_l2 f σ x i = some (q_wh r x n i, σ) := by
  intro n
  have h2 := hs.1
  have hn := hr.1
  unfold zr at hx
  induction n with
  | zero =>
    intro f i hf i0 hi
    obtain ⟨f, rfl⟩ : ∃ k, f = k + 1 := ⟨f - 1, by omega⟩
    show f_X3_placeOfSource_b2 _ σ x i = _
    unfold f_X3_placeOfSource_b2
    rw [h2, if_pos (by unfold zr; omega), if_pos (by omega)]
    rfl
  | succ n ih =>
    intro f i hf i0 hi
    obtain ⟨f, rfl⟩ : ∃ k, f = k + 1 := ⟨f - 1, by omega⟩
    have h1 := (hs.2 i i0 (by omega)).1
    have h3 := (hr.2.1 i i0 (by omega)).2
    show f_X3_placeOfSource_b2 _ σ x i = _
    unfold f_X3_placeOfSource_b2 q_wh
    rw [h2, if_pos (by unfold zr; omega), if_neg (by omega), if_pos (by omega), h1, if_pos (by unfold zr; omega)]
    by_cases a : r.2.1 i = x
    · rw [if_neg (by omega), if_pos a]
    · rw [if_pos a, if_neg a]
      exact ih f (i + 1) (by omega) (by omega) (by omega)
