/-! THE METHODS' VALUES: what each function of the second part comes to -/
theorem z_ifp {α : Type} {c : Prop} [Decidable c] {A B : α} (h : c) : (if c then A else B) = A := if_pos h
theorem z_ifn {α : Type} {c : Prop} [Decidable c] {A B : α} (h : ¬ c) : (if c then A else B) = B := if_neg h
/-- a mark's five numbers laid over another's -/
def z_mm (σ : zS) (j k : Nat) (a b : Int) : zS := fun x y => if y = b ∧ 8 * j + 2 ≤ x ∧ x ≤ 8 * j + 6 then σ (8 * k + (x - 8 * j)) a else σ x y
theorem c_copyMark {j k : Nat} {σ : zS} {a b : Int} (ha : 0 ≤ a ∧ a < 20) (hb : 0 ≤ b ∧ b < 20) (hh : 0 ≤ σ (8 * k + 6) a ∧ σ (8 * k + 6) a ≤ 1) : f_X2_copyMark j k σ a b = some ((), z_mm σ j k a b) := by
  have e1 : ∀ (σ : zS) (x y : Nat) (b v a : Int), y ≠ x → z_up σ x b v y a = σ y a := fun σ x y b v a h => by simp [z_up, h]
  simp (disch := omega) only [f_X2_copyMark, z_put, z_ifp, e1]
  refine congrArg some (Prod.ext rfl ?_)
  funext x y
  simp only [z_up, z_mm]
  by_cases hy : y = b
  · by_cases hx : 8 * j + 2 ≤ x ∧ x ≤ 8 * j + 6
    · rcases (show x = 8 * j + 2 ∨ x = 8 * j + 3 ∨ x = 8 * j + 4 ∨ x = 8 * j + 5 ∨ x = 8 * j + 6 by omega) with rfl | rfl | rfl | rfl | rfl <;> simp [hy] 
    · rw [if_neg (by omega), if_neg (by omega), if_neg (by omega), if_neg (by omega), if_neg (by omega), if_neg (by omega)]
  · simp [hy]
theorem c_levelAt {j : Nat} {σ : zS} {x : Int} (hx : zr x) (hF : 0 ≤ σ (8 * j) 1 ∧ σ (8 * j) 1 ≤ 200) : f_X2_levelAt j σ x = some (if 0 ≤ x ∧ x < σ (8 * j) 1 then σ (8 * j + 1) x else 0, σ) := by
  unfold zr at hx
  by_cases h : 0 ≤ x ∧ x < σ (8 * j) 1
  · simp (disch := omega) only [f_X2_levelAt, f_X2_levelAt_b22, f_X2_levelAt_b21, zr, z_ifp, z_ifn]
  · by_cases h0 : x < 0
    · simp (disch := omega) only [f_X2_levelAt, f_X2_levelAt_b22, f_X2_levelAt_b21, zr, z_ifp, z_ifn]
    · simp (disch := omega) only [f_X2_levelAt, f_X2_levelAt_b22, f_X2_levelAt_b21, zr, z_ifp, z_ifn]
