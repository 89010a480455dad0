/-! SET, LOUDNESS, SHARE -/
def v_set (V : zV) (x y : Int) : zV := (v_F V, v_M V, v_L V, v_K V, fun i => if i = x then y else v_S V i)
theorem v_set_ok {V : zV} {x y : Int} (h : v_ok V) (hx : 0 ≤ x ∧ x ≤ 6) (hy : 0 ≤ y ∧ y ≤ z_most x) : v_ok (v_set V x y) := by
  obtain ⟨h1, h2, h3, h4, h5, h6⟩ := h
  refine ⟨h1, h2, h3, h4, h5, ?_⟩
  unfold z_most at hy
  obtain ⟨k0, k1, k2, k3, k4, k5, k6⟩ := h6
  show (0 ≤ (if (0 : Int) = x then y else v_S V 0) ∧ (if (0 : Int) = x then y else v_S V 0) ≤ 100) ∧ (0 ≤ (if (1 : Int) = x then y else v_S V 1) ∧ (if (1 : Int) = x then y else v_S V 1) ≤ 9) ∧ (0 ≤ (if (2 : Int) = x then y else v_S V 2) ∧ (if (2 : Int) = x then y else v_S V 2) ≤ 20) ∧ (0 ≤ (if (3 : Int) = x then y else v_S V 3) ∧ (if (3 : Int) = x then y else v_S V 3) ≤ 50) ∧ (0 ≤ (if (4 : Int) = x then y else v_S V 4) ∧ (if (4 : Int) = x then y else v_S V 4) ≤ 100) ∧ (0 ≤ (if (5 : Int) = x then y else v_S V 5) ∧ (if (5 : Int) = x then y else v_S V 5) ≤ 50) ∧ (0 ≤ (if (6 : Int) = x then y else v_S V 6) ∧ (if (6 : Int) = x then y else v_S V 6) ≤ 50)
  rcases (show x = 0 ∨ x = 1 ∨ x = 2 ∨ x = 3 ∨ x = 4 ∨ x = 5 ∨ x = 6 by omega) with rfl | rfl | rfl | rfl | rfl | rfl | rfl
  · rw [if_pos rfl] at hy
    rw [if_pos rfl, if_neg (by omega), if_neg (by omega), if_neg (by omega), if_neg (by omega), if_neg (by omega), if_neg (by omega)]; exact ⟨hy, k1, k2, k3, k4, k5, k6⟩
  · rw [if_neg (by omega), if_pos rfl] at hy
    rw [if_neg (by omega), if_pos rfl, if_neg (by omega), if_neg (by omega), if_neg (by omega), if_neg (by omega), if_neg (by omega)]; exact ⟨k0, hy, k2, k3, k4, k5, k6⟩
  · rw [if_neg (by omega), if_neg (by omega), if_pos rfl] at hy
    rw [if_neg (by omega), if_neg (by omega), if_pos rfl, if_neg (by omega), if_neg (by omega), if_neg (by omega), if_neg (by omega)]; exact ⟨k0, k1, hy, k3, k4, k5, k6⟩
  · rw [if_neg (by omega), if_neg (by omega), if_neg (by omega), if_pos rfl] at hy
    rw [if_neg (by omega), if_neg (by omega), if_neg (by omega), if_pos rfl, if_neg (by omega), if_neg (by omega), if_neg (by omega)]; exact ⟨k0, k1, k2, hy, k4, k5, k6⟩
  · rw [if_neg (by omega), if_neg (by omega), if_neg (by omega), if_neg (by omega), if_pos rfl] at hy
    rw [if_neg (by omega), if_neg (by omega), if_neg (by omega), if_neg (by omega), if_pos rfl, if_neg (by omega), if_neg (by omega)]; exact ⟨k0, k1, k2, k3, hy, k5, k6⟩
  · rw [if_neg (by omega), if_neg (by omega), if_neg (by omega), if_neg (by omega), if_neg (by omega)] at hy
    rw [if_neg (by omega), if_neg (by omega), if_neg (by omega), if_neg (by omega), if_neg (by omega), if_pos rfl, if_neg (by omega)]; exact ⟨k0, k1, k2, k3, k4, hy, k6⟩
  · rw [if_neg (by omega), if_neg (by omega), if_neg (by omega), if_neg (by omega), if_neg (by omega)] at hy
    rw [if_neg (by omega), if_neg (by omega), if_neg (by omega), if_neg (by omega), if_neg (by omega), if_neg (by omega), if_pos rfl]; exact ⟨k0, k1, k2, k3, k4, k5, hy⟩
theorem z_most_le (x : Int) : 0 ≤ z_most x ∧ z_most x ≤ 100 := by
  unfold z_most
  split
  · omega
  · split
    · omega
    · split
      · omega
      · split
        · omega
        · split <;> omega
