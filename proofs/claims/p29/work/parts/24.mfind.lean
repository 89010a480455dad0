/-! THE REFERENCE'S CUTS, ALL; THEIR SUMS -/
/-- what sumOf adds up -/
def q_w (s : zL) (x : Int) : Int → Int := if x = 0 then (fun i => s.2 1 i - s.2 0 i) else if x = 1 then s.2 2 else s.2 3
theorem q_cutOf_none {s : zL} {m : Int} : ∀ (n : Nat) (i : Int), (∀ k, i ≤ k → k < i + n → s.2 4 k ≠ m) → q_cutOf s m n i = -9 := by
  intro n
  induction n with
  | zero => intro i _; rfl
  | succ n ih =>
    intro i h
    unfold q_cutOf
    rw [if_neg (h i (by omega) (by omega))]
    exact ih (i + 1) (fun k h0 h1 => h k (by omega) (by omega))
theorem q_cok_mono {V : zV} {s : zL} {k : Int} (hk : q_cok V s k) : ∀ (n : Nat) (i : Int), 0 ≤ i → i + n < s.1 → s.2 4 i ≤ s.2 4 (i + n) ∧ (0 < n → s.2 4 i < s.2 4 (i + n)) ∧ (0 < n → s.2 1 i ≤ s.2 0 (i + n)) := by
  intro n
  induction n with
  | zero => intro i _ _; refine ⟨by simp, fun h => by omega, fun h => by omega⟩
  | succ n ih =>
    intro i h0 h1
    have h2 := ih i h0 (by omega)
    have h3 := hk.2.2.1 (i + n) (by omega) (by omega)
    have h4 := (hk.2.1 (i + n) (by omega) (by omega)).1
    have e : i + ((n + 1 : Nat) : Int) = i + n + 1 := by omega
    rw [e]
    refine ⟨by omega, fun _ => by omega, fun _ => ?_⟩
    by_cases hn : 0 < n
    · have := h2.2.2 hn; omega
    · have : n = 0 := by omega
      subst this
      simp at h3 ⊢
      exact h3.1
