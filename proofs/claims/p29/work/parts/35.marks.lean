/-! UNMARK -/
/-- the class' rows of marks, the first n of them -/
def c_K (σ : zS) (K : Int → Int → Int) (n : Int) : Prop := ∀ m, 0 ≤ m → m < n → σ 2 m = K 0 m ∧ σ 3 m = K 1 m ∧ σ 4 m = K 2 m ∧ σ 5 m = K 3 m ∧ σ 6 m = K 4 m
theorem c_mv {σ : zS} {a b : Int} (ha : 0 ≤ a ∧ a < 20) (hb : 0 ≤ b ∧ b < 20) (hh : 0 ≤ σ 6 a ∧ σ 6 a ≤ 1) : ∃ τ, f_X2_copyMark 0 0 σ a b = some ((), τ) ∧ (∀ y, τ 2 y = (if y = b then σ 2 a else σ 2 y) ∧ τ 3 y = (if y = b then σ 3 a else σ 3 y) ∧ τ 4 y = (if y = b then σ 4 a else σ 4 y) ∧ τ 5 y = (if y = b then σ 5 a else σ 5 y) ∧ τ 6 y = (if y = b then σ 6 a else σ 6 y)) ∧ z_out 2 6 σ τ := by
  obtain ⟨τ, t1, t2, t3⟩ := c_copyMark (j := 0) (k := 0) ha hb hh
  exact ⟨τ, t1, fun y => ⟨t2 2 y (by omega) (by omega), t2 3 y (by omega) (by omega), t2 4 y (by omega) (by omega), t2 5 y (by omega) (by omega), t2 6 y (by omega) (by omega)⟩, t3⟩
def v_del (V : zV) (m : Int) : zV := (v_F V, v_M V - 1, v_L V, fun c i => if i < m then v_K V c i else v_K V c (i + 1), v_S V)
theorem v_del_K {V : zV} {m c i : Int} : v_K (v_del V m) c i = if i < m then v_K V c i else v_K V c (i + 1) := rfl
theorem v_del_lo {V : zV} {m c i : Int} (h : i < m) : v_K (v_del V m) c i = v_K V c i := by rw [v_del_K, if_pos h]
theorem v_del_hi {V : zV} {m c i : Int} (h : ¬ i < m) : v_K (v_del V m) c i = v_K V c (i + 1) := by rw [v_del_K, if_neg h]
theorem v_del_ok {V : zV} {m : Int} (h : v_ok V) (m0 : 0 ≤ m) (m1 : m < v_M V) : v_ok (v_del V m) := by
  have h' := h
  obtain ⟨h1, h2, h3, h4, h5, h6⟩ := h
  refine ⟨h1, by show 0 ≤ v_M V - 1 ∧ v_M V - 1 ≤ 20; omega, h3, fun i i0 i1 => ?_, fun i i0 i1 => ?_, h6⟩
  · have i1 : i < v_M V - 1 := i1
    unfold v_mok
    by_cases e : i < m
    · rw [v_del_lo e, v_del_lo e, v_del_lo e, v_del_lo e, v_del_lo e]
      exact h4 i i0 (by omega)
    · rw [v_del_hi e, v_del_hi e, v_del_hi e, v_del_hi e, v_del_hi e]
      exact h4 (i + 1) (by omega) (by omega)
  · have i1 : i + 1 < v_M V - 1 := i1
    by_cases e : i + 1 < m
    · rw [v_del_lo e, v_del_lo (by omega)]
      exact h5 i i0 (by omega)
    · rw [v_del_hi e]
      by_cases e2 : i < m
      · rw [v_del_lo e2]
        exact v_mono2 h' i0 (by omega) (by omega)
      · rw [v_del_hi e2]
        exact h5 (i + 1) (by omega) (by omega)
theorem c_remove_l {V : zV} {m : Int} (hV : v_ok V) (m0 : 0 ≤ m) : ∀ (n f : Nat) (x : Int) (σ : zS), n < f → m ≤ x → x + 1 + n = v_M V → σ 0 7 = v_M V → c_K σ (fun c i => if i < m ∨ x ≤ i then v_K V c i else v_K V c (i + 1)) (v_M V) → ∃ τ, f_X2_removeMark_l11 0 f σ x = some ((), τ) ∧ c_K τ (fun c i => if i < m then v_K V c i else v_K V c (i + 1)) (v_M V - 1) ∧ τ 0 7 = v_M V - 1 ∧ τ 0 1 = σ 0 1 ∧ (∀ a, a ≠ 0 → (a < 2 ∨ 6 < a) → τ a = σ a) := by
  intro n
  have hM := hV.2.1
  induction n with
  | zero =>
    intro f x σ hf x0 hx h7 hK
    obtain ⟨f, rfl⟩ : ∃ k, f = k + 1 := ⟨f - 1, by omega⟩
    refine ⟨z_up σ 0 7 (v_M V - 1), ?_, fun i i0 i1 => ?_, z_re, z_ri (by omega), fun a a0 _ => by funext b; exact z_rn a0⟩
    · unfold f_X2_removeMark_l11 f_X2_removeMark_b11
      simp only [Nat.mul_zero]
      rw [h7, if_pos (by unfold zr; omega), if_pos (by omega), z_put]
    · have h := hK i i0 (by omega)
      rw [z_rn (by omega), z_rn (by omega), z_rn (by omega), z_rn (by omega), z_rn (by omega)]
      by_cases e : i < m
      · simp only [if_pos e]
        simp only [if_pos (show i < m ∨ x ≤ i by omega)] at h
        exact h
      · simp only [if_neg e]
        simp only [if_neg (show ¬ (i < m ∨ x ≤ i) by omega)] at h
        exact h
  | succ n ih =>
    intro f x σ hf x0 hx h7 hK
    obtain ⟨f, rfl⟩ : ∃ k, f = k + 1 := ⟨f - 1, by omega⟩
    have hk := hV.2.2.2.1 (x + 1) (by omega) (by omega)
    unfold v_mok at hk
    have hsrc := hK (x + 1) (by omega) (by omega)
    simp only [if_pos (show x + 1 < m ∨ x ≤ x + 1 by omega)] at hsrc
    obtain ⟨g0, g1, g2, g3, g4⟩ := hsrc
    obtain ⟨υ, u1, u2, u3⟩ := c_mv (σ := σ) (a := x + 1) (b := x) (by omega) (by omega) (by omega)
    obtain ⟨τ, t1, t2, t3, t4, t5⟩ := ih f (x + 1) υ (by omega) (by omega) (by omega) (by rw [u3 0 (by omega)]; exact h7) (fun i i0 i1 => by
      obtain ⟨k0, k1, k2, k3, k4⟩ := u2 i
      rw [k0, k1, k2, k3, k4]
      by_cases e : i = x
      · simp only [if_pos e, if_neg (show ¬ (i < m ∨ x + 1 ≤ i) by omega)]
        rw [e]
        exact ⟨g0, g1, g2, g3, g4⟩
      · have h := hK i i0 i1
        simp only [if_neg e]
        by_cases e2 : i < m ∨ x ≤ i
        · simp only [if_pos e2] at h
          simp only [if_pos (show i < m ∨ x + 1 ≤ i by omega)]
          exact h
        · simp only [if_neg e2] at h
          simp only [if_neg (show ¬ (i < m ∨ x + 1 ≤ i) by omega)]
          exact h)
    refine ⟨τ, ?_, t2, t3, by rw [t4, u3 0 (by omega)], fun a a0 a1 => by rw [t5 a a0 a1, u3 a (by omega)]⟩
    unfold f_X2_removeMark_l11 f_X2_removeMark_b11
    simp only [Nat.mul_zero]
    rw [h7, if_pos (by unfold zr; omega), if_neg (by omega), u1, z_bd]
    exact t1
theorem c_remove {σ : zS} {V : zV} {m : Int} (hC : v_C σ 0 V) (hV : v_ok V) (m0 : 0 ≤ m) (m1 : m < v_M V) : ∃ τ, f_X2_removeMark 0 σ m = some ((), τ) ∧ v_C τ 0 (v_del V m) ∧ (∀ a, 8 ≤ a → τ a = σ a) := by
  have hM := hV.2.1
  obtain ⟨f1, f2, f3, f4, f5⟩ := v_C0 hC
  obtain ⟨τ, t1, t2, t3, t4, t5⟩ := c_remove_l hV m0 (v_M V - m - 1).toNat z_fuel m σ (by unfold z_fuel; omega) (by omega) (by omega) f2 (fun i i0 i1 => by
    simp only [if_pos (show i < m ∨ m ≤ i by omega)]
    exact f4 i i0 i1)
  refine ⟨τ, ?_, ⟨t4.trans f1, t3, fun i i0 i1 => ?_, t2, fun i i0 i1 => ?_⟩, fun a ha => t5 a (by omega) (by omega)⟩
  · unfold f_X2_removeMark
    rw [c_hasMark hC hV (by unfold zr; omega), z_bd, if_pos (show 0 ≤ m ∧ m < v_M V from ⟨m0, m1⟩), if_pos (by decide), if_pos (by omega)]
    exact t1
  · have : τ 1 = σ 1 := t5 1 (by omega) (by omega)
    show τ 1 i = _
    rw [this]; exact f3 i i0 i1
  · have : τ 7 = σ 7 := t5 7 (by omega) (by omega)
    show τ 7 i = _
    rw [this]; exact f5 i i0 i1
