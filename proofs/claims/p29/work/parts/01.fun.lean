/-! THE METHODS AS FUNCTIONS OF NUMBERS. zS: what the cells hold, by the cell's place and the index in it; zr: the range of an int. -/
abbrev zS : Type := Nat → Int → Int
abbrev zr (z : Int) : Prop := -2147483648 ≤ z ∧ z < 2147483648
def z_up (σ : zS) (k : Nat) (i v : Int) : zS := fun a b => if a = k ∧ b = i then v else σ a b
def z_put {α : Type} (σ : zS) (k : Nat) (i v : Int) (K : zS → Option α) : Option α := K (z_up σ k i v)
def z_bind {α β : Type} (o : Option (α × zS)) (K : α → zS → Option β) : Option β := match o with
  | some (a, s) => K a s
  | none => none
/-- an int shifted right by n without its sign -/
def z_ushr (x : Int) (n : Nat) : Int := (x % 4294967296) / (2 ^ n : Nat)
/-- n values of a row to another -/
def z_cpy (σ : zS) (k1 : Nat) (i1 : Int) (k2 : Nat) (i2 n : Int) : zS := fun a b => if a = k2 ∧ i2 ≤ b ∧ b < i2 + n then σ k1 (i1 + (b - i2)) else σ a b
def z_copy {α : Type} (σ : zS) (k1 : Nat) (i1 : Int) (k2 : Nat) (i2 n : Int) (K : zS → Option α) : Option α := K (z_cpy σ k1 i1 k2 i2 n)
/-- the turns that a loop is given: more than any takes -/
def z_fuel : Nat := 100000
theorem z_bind_some {α β : Type} {o : Option (α × zS)} {K : α → zS → Option β} {r : β} (h : z_bind o K = some r) : ∃ a s, o = some (a, s) ∧ K a s = some r := by
  match o, h with
  | some (a, s), h => exact ⟨a, s, rfl, h⟩
theorem z_if {α : Type} {g c : Prop} [Decidable g] [Decidable c] {A B : Option α} {r : α} (h : (if g then (if c then A else B) else none) = some r) : g ∧ ((c ∧ A = some r) ∨ (¬ c ∧ B = some r)) := by
  by_cases hg : g
  · rw [if_pos hg] at h
    by_cases hc : c
    · rw [if_pos hc] at h; exact ⟨hg, Or.inl ⟨hc, h⟩⟩
    · rw [if_neg hc] at h; exact ⟨hg, Or.inr ⟨hc, h⟩⟩
  · rw [if_neg hg] at h; cases h
theorem z_gd {α : Type} {g : Prop} [Decidable g] {A : Option α} {r : α} (h : (if g then A else none) = some r) : g ∧ A = some r := by
  by_cases hg : g
  · rw [if_pos hg] at h; exact ⟨hg, h⟩
  · rw [if_neg hg] at h; cases h
