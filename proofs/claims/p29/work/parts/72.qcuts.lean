/-! WHAT HOLDS OF THE CUTS -/
theorem q_seam_qt (V : zV) (t lo hi : Int) : ∀ (n : Nat) (d : Int), q_seam V t lo hi n d = -1 ∨ q_qt V (q_seam V t lo hi n d) := by
  intro n
  induction n with
  | zero => intro d; exact Or.inl rfl
  | succ n ih =>
    intro d
    unfold q_seam
    split
    · rename_i h; exact Or.inr h.2
    · split
      · rename_i h; exact Or.inr h.2
      · exact ih (d + 1)
/-- a cut, its five numbers f, keeps to its mark -/
def q_g1 (V : zV) (d : Int) (f : Int → Int) : Prop := v_K V 4 (f 4) = 0 ∧ ((v_K V 0 (f 4) = 0 ∧ v_K V 3 (f 4) ≤ d ∧ f 2 ≤ v_S V 3 ∧ (f 3 = 0 → q_lv V (f 0) ≤ v_S V 1)) ∨ (v_K V 0 (f 4) = 1 ∧ f 2 = 0 ∧ f 3 = 0 ∧ v_K V 1 (f 4) ≤ f 0 ∧ f 1 ≤ v_K V 2 (f 4))) ∧ f 1 ≤ q_high V (f 4) ∧ (0 < f 4 → v_K V 2 (f 4 - 1) ≤ f 0)
def q_gk (V : zV) (d : Int) (s : zL) : Prop := ∀ i, 0 ≤ i → i < s.1 → q_g1 V d (fun c => s.2 c i)
theorem q_gk_push {V : zV} {d : Int} {s : zL} {b e p r m : Int} (hs : q_gk V d s) (h : q_g1 V d (fun c => if c = 0 then b else if c = 1 then e else if c = 2 then p else if c = 3 then r else m)) : q_gk V d (q_push s b e p r m) := by
  intro i i0 i1
  have i1 : i < s.1 + 1 := i1
  by_cases hi : i = s.1
  · have e1 : (fun c => (q_push s b e p r m).2 c i) = (fun c => if c = 0 then b else if c = 1 then e else if c = 2 then p else if c = 3 then r else m) := by
      funext c
      simp only [q_push, if_pos hi]
    rw [e1]; exact h
  · have e1 : (fun c => (q_push s b e p r m).2 c i) = (fun c => s.2 c i) := by
      funext c
      simp only [q_push, if_neg hi]
    rw [e1]; exact hs i i0 (by omega)
theorem q_g1_of {V : zV} {d b e p r m : Int} (h4 : v_K V 4 m = 0) (hk : (v_K V 0 m = 0 ∧ v_K V 3 m ≤ d ∧ p ≤ v_S V 3 ∧ (r = 0 → q_lv V b ≤ v_S V 1)) ∨ (v_K V 0 m = 1 ∧ p = 0 ∧ r = 0 ∧ v_K V 1 m ≤ b ∧ e ≤ v_K V 2 m)) (he : e ≤ q_high V m) (hb : 0 < m → v_K V 2 (m - 1) ≤ b) : q_g1 V d (fun c => if c = 0 then b else if c = 1 then e else if c = 2 then p else if c = 3 then r else m) := by
  unfold q_g1
  simp only [if_true, if_neg (show ¬ ((1:Int) = 0) by decide), if_neg (show ¬ ((2:Int) = 0) by decide), if_neg (show ¬ ((2:Int) = 1) by decide), if_neg (show ¬ ((3:Int) = 0) by decide), if_neg (show ¬ ((3:Int) = 1) by decide), if_neg (show ¬ ((3:Int) = 2) by decide), if_neg (show ¬ ((4:Int) = 0) by decide), if_neg (show ¬ ((4:Int) = 1) by decide), if_neg (show ¬ ((4:Int) = 2) by decide), if_neg (show ¬ ((4:Int) = 3) by decide)]
  exact ⟨h4, hk, he, hb⟩
theorem q_high_ge {V : zV} (h : v_ok V) {m : Int} (m0 : 0 ≤ m) (m1 : m < v_M V) : v_K V 2 m ≤ q_high V m := by
  have hm := (h.2.2.2.1 m m0 m1).2.1
  unfold q_high
  by_cases a : m + 1 < v_M V
  · rw [if_pos a]; exact h.2.2.2.2.1 m m0 a
  · rw [if_neg a]; exact hm.2.2
theorem q_gk_step {V : zV} (h : v_ok V) {d w : Int} {s : zL} {m : Int} (m0 : 0 ≤ m) (m1 : m < v_M V) (hs : q_cok V s m) (hg : q_gk V d s) : q_gk V d (q_step V d w s m) := by
  have hm := h.2.2.2.1 m m0 m1
  have hh := q_high_ge h m0 m1
  have hbef : 0 < m → v_K V 2 (m - 1) ≤ v_K V 1 m := fun h6 => v_mono2 h (by omega) (by omega) m1
  unfold q_step
  split
  · rename_i a
    obtain ⟨f1, f2, f3, f4, f5, f6, f7, f8, f9⟩ := q_fill_facts h (w := w) m0 m1 hs
    unfold q_fill
    refine q_gk_push hg (q_g1_of a.1 (Or.inl ⟨a.2.1, a.2.2, ?_, fun hr => ?_⟩) f6.2 (fun h6 => by have := f9 h6; omega))
    · unfold q_p
      split <;> omega
    · by_cases e : q_b0 V w s m = -1 ∨ q_e0 V w s m = -1
      · rw [if_pos e] at hr; omega
      · have e1 : ¬ q_b0 V w s m = -1 := fun h => e (Or.inl h)
        have hq := q_seam_qt V (v_K V 1 m) (q_low V s m) (v_K V 2 m - 1) (w + 1).toNat 0
        have hq : q_qt V (q_b0 V w s m) := by
          rcases hq with hq | hq
          · exact absurd hq e1
          · exact hq
        have e2 : q_b V w s m = q_b0 V w s m := by unfold q_b; rw [if_neg e1]
        rw [e2]; exact hq.2
  · split
    · rename_i a
      have hb := hm.2.1
      have h5 := h.2.2.2.2.2.2.2.2.2.2.1
      unfold q_breath
      split
      · exact q_gk_push hg (q_g1_of a.1 (Or.inr ⟨a.2, rfl, rfl, by omega, by omega⟩) hh hbef)
      · split
        · rw [q_tdiv (by omega), q_tdiv (by omega)]
          exact q_gk_push hg (q_g1_of a.1 (Or.inr ⟨a.2, rfl, rfl, by omega, by omega⟩) (by omega) (fun h6 => by have := hbef h6; omega))
        · exact hg
    · exact hg
theorem q_gk_cuts {V : zV} (h : v_ok V) {d w : Int} : ∀ k : Nat, (k : Int) ≤ v_M V → q_gk V d (q_cuts V d w k) := by
  intro k
  induction k with
  | zero => intro _ i i0 i1; have i1 : i < 0 := i1; omega
  | succ k ih =>
    intro hk
    exact q_gk_step h (d := d) (w := w) (s := q_cuts V d w k) (m := k) (by omega) (by omega) (q_cuts_ok h k (by omega)) (ih (by omega))
theorem q_gkC {V : zV} (h : v_ok V) : q_gk V (v_S V 0) (q_C V) := by
  have hM := h.2.1
  exact q_gk_cuts h (v_M V).toNat (by omega)
/-- the cut of a mark is found at its place -/
theorem q_cutOf_at {V : zV} {s : zL} {k : Int} (hk : q_cok V s k) {x : Int} (x1 : x < s.1) : ∀ (n : Nat) (i : Int), 0 ≤ i → i ≤ x → x < i + n → q_cutOf s (s.2 4 x) n i = x := by
  intro n
  induction n with
  | zero => intro i i0 h1 h2; omega
  | succ n ih =>
    intro i i0 h1 h2
    unfold q_cutOf
    by_cases e : i = x
    · rw [e, if_pos rfl]
    · have h3 := q_cok_mono hk (x - i).toNat i i0 (by omega)
      have e2 : i + ((x - i).toNat : Int) = x := by omega
      rw [e2] at h3
      have h4 := h3.2.1 (by omega)
      rw [if_neg (by omega)]
      exact ih (i + 1) (by omega) (by omega) (by omega)
-- how many frames the result has
theorem q_ps_n (V : zV) (t : Int) (r : zP) : ∀ n : Nat, (q_ps V t r n).1 = r.1 + n := by
  intro n
  induction n with
  | zero => simp [q_ps]
  | succ n ih => show (q_ps V t r n).1 + 1 = _; rw [ih]; omega
theorem q_pl_n {V : zV} (h : v_ok V) {s : zL} {k : Int} (hs : q_cok V s k) : ∀ i : Nat, (i : Int) ≤ s.1 → (q_pl V s i).1.1 = (q_pl V s i).2.2 - q_sum (q_w s 0) i + q_sum (q_w s 1) i := by
  intro i
  induction i with
  | zero => intro _; rfl
  | succ i ih =>
    intro hi
    have ih := ih (by omega)
    have g := (q_pl_ok h hs i (by omega)).2.2.2.2.1 (by omega)
    have c := hs.2.1 i (by omega) (by omega)
    have e1 : (q_pl V s (i + 1)).1.1 = (q_pl V s i).1.1 + ((s.2 0 i - (q_pl V s i).2.2).toNat : Int) + ((s.2 2 i).toNat : Int) := by
      show (q_ps V _ _ _).1 = _
      rw [q_ps_n, q_rec_n]
    have e2 : (q_pl V s (i + 1)).2.2 = s.2 1 i := rfl
    have e3 : q_sum (q_w s 0) (i + 1) = q_sum (q_w s 0) i + (s.2 1 i - s.2 0 i) := rfl
    have e4 : q_sum (q_w s 1) (i + 1) = q_sum (q_w s 1) i + s.2 2 i := rfl
    rw [e1, e2, e3, e4, ih]
    omega
theorem q_P_n {V : zV} (h : v_ok V) : (q_P V).1 = v_F V - q_sum (q_w (q_C V) 0) (q_C V).1.toNat + q_sum (q_w (q_C V) 1) (q_C V).1.toNat := by
  have hk : q_cok V (q_C V) (v_M V) := q_kok h _ _
  have hn := hk.1
  have g := q_pl_ok h hk (q_C V).1.toNat (by omega)
  have h1 := q_pl_n h hk (q_C V).1.toNat (by omega)
  show (q_rec V _ _ _).1 = _
  rw [q_rec_n, h1]
  omega
/-- sums over the cuts are small -/
theorem q_w_ok {V : zV} (h : v_ok V) {x : Int} (hx : 0 ≤ x ∧ x ≤ 2) : ∀ n : Nat, (n : Int) ≤ (q_C V).1 → 0 ≤ q_sum (q_w (q_C V) x) n ∧ q_sum (q_w (q_C V) x) n ≤ 4000 := by
  intro n hn
  have hF := h.1
  have hM := h.2.1
  have hk : q_cok V (q_C V) (v_M V) := q_kok h _ _
  have hc := hk.1
  have := q_sum_le (f := q_w (q_C V) x) (b := 200) n (fun i i0 i1 => by
    have := hk.2.1 i (by omega) (by omega)
    unfold q_w
    rcases (show x = 0 ∨ x = 1 ∨ x = 2 by omega) with rfl | rfl | rfl
    · rw [if_pos rfl]; show 0 ≤ _ - _ ∧ _ - _ ≤ _; omega
    · rw [if_neg (by omega), if_pos rfl]; omega
    · rw [if_neg (by omega), if_neg (by omega)]; omega)
  omega
