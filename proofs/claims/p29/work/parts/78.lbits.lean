/-! THE SCRIPT'S NUMBERS -/
theorem zr_toInt (x : Int32) : zr x.toInt := ⟨Int32.le_toInt x, Int32.toInt_lt x⟩
theorem z_and_zr (a b : Int) : zr (z_and a b) := zr_toInt _
theorem z_and_31 (a : Int) : 0 ≤ z_and a 2147483647 := by
  unfold z_and
  have h1 : ((zi a &&& zi 2147483647).toBitVec).toNat ≤ 2147483647 := by
    rw [Int32.toBitVec_and, BitVec.toNat_and]
    exact Nat.le_trans Nat.and_le_right (by decide)
  have h2 : (zi a &&& zi 2147483647).toInt = ((zi a &&& zi 2147483647).toBitVec).toInt := rfl
  rw [h2, BitVec.toInt_eq_toNat_of_lt (by omega)]
  omega
theorem L_up {σ : zS} (x : Int) {m : Int} (hm : 0 < m ∧ m < 2147483648) : ∃ u : Int, f_L_up σ x m = some (u, σ) ∧ 0 ≤ u ∧ u < m := by
  have h1 := z_and_31 x
  refine ⟨(z_and x 2147483647).tmod m, ?_, ?_⟩
  · unfold f_L_up
    rw [if_pos ⟨z_and_zr _ _, by unfold zr; omega, by omega⟩]
  · rw [Int.tmod_eq_emod_of_nonneg h1]
    exact ⟨Int.emod_nonneg _ (by omega), Int.emod_lt_of_pos _ hm.1⟩
theorem L_cell {E : yE} {σ : zS} (hE : e_L E ≤ 260) {k : Int} (hk : 0 ≤ k ∧ k ≤ 1000) : ∃ v : Int, f_L_cell E σ k = some (v, σ) := by
  unfold f_L_cell f_L_cell_b18
  rw [if_pos (by unfold zr; omega)]
  by_cases a : (e_L E : Int) ≤ k
  · rw [if_pos a]; exact ⟨_, rfl⟩
  · rw [if_neg a, if_pos (by omega)]; exact ⟨_, rfl⟩
