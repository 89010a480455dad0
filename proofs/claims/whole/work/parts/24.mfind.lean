/-! THE REFERENCE'S CUTS, ALL; THEIR SUMS -/
theorem m_finds_l {V : zV} {d w : Int} (hV : v_ok V) (hd : 0 ≤ d ∧ d ≤ 100) (hw : 0 ≤ w ∧ w ≤ 20) : ∀ (n m f : Nat) (σ : zS), n < f → (m : Int) + n = v_M V → v_Q (σ 1) V d w → r_M σ (q_cuts V d w m) → ∃ τ, f_X6_finds_l7 f σ m = some ((), τ) ∧ r_M τ (q_cuts V d w (m + n)) ∧ z_ex p_F σ τ := by
  intro n
  have hM := hV.2.1
  have hF := hV.1
  induction n with
  | zero =>
    intro m f σ hf hm hR hs
    obtain ⟨f, rfl⟩ : ∃ k, f = k + 1 := ⟨f - 1, by omega⟩
    refine ⟨σ, ?_, hs, z_ex_rf⟩
    have h8 := hR.2.1
    unfold f_X6_finds_l7 f_X6_finds_b7
    rw [h8, if_pos (by omega), if_pos (by unfold zr; omega), if_pos (by omega)]
  | succ n ih =>
    intro m f σ hf hm hR hs
    obtain ⟨f, rfl⟩ : ∃ k, f = k + 1 := ⟨f - 1, by omega⟩
    have h8 := hR.2.1
    have m1 : (m : Int) < v_M V := by omega
    have hmk := hV.2.2.2.1 m (by omega) m1
    have hk := q_cuts_ok hV (d := d) (w := w) m (by omega)
    have hn := hk.1
    obtain ⟨e0, e1, e2, e3, e4⟩ := m_of hR hV (m := m) (by omega) m1
    obtain ⟨s0, s1, s2, s3, s4, s5, s6⟩ := hR.2.2.2.2
    have hs5 := hV.2.2.2.2.2.2.2.2.2.2.1
    have hs6 := hV.2.2.2.2.2.2.2.2.2.2.2
    have hG : ∀ τ, r_M τ (q_cuts V d w (m + 1)) → z_ex p_F σ τ → ∃ υ, f_X6_finds_b174 (f_X6_finds_l7 f) τ m = some ((), υ) ∧ r_M υ (q_cuts V d w (m + (n + 1))) ∧ z_ex p_F σ υ := by
      intro τ h1 h2
      obtain ⟨υ, u1, u2, u3⟩ := ih (m + 1) f τ (by omega) (by omega) (v_Q_eq hR (fun i => h2 1 i (by omega))) h1
      refine ⟨υ, ?_, ?_, z_ex_tr h2 u3⟩
      · unfold f_X6_finds_b174
        have e : ((m : Int) + 1) = ((m + 1 : Nat) : Int) := by omega
        rw [e]; exact u1
      · have e : m + (n + 1) = m + 1 + n := by omega
        rw [e]; exact u2
    have hq : q_cuts V d w (m + 1) = q_step V d w (q_cuts V d w m) m := rfl
    unfold v_mok at hmk
    have hB : (¬ v_K V 4 m = 0 ∨ ¬ v_K V 0 m = 0 ∨ d < v_K V 3 m) → ∃ υ, f_X6_finds_b73 (f_X6_finds_l7 f) σ m (v_K V 2 m - v_K V 1 m) = some ((), υ) ∧ r_M υ (q_cuts V d w (m + (n + 1))) ∧ z_ex p_F σ υ := by
      intro hne
      unfold f_X6_finds_b73
      rw [e4, z_bd, if_pos (by unfold zr; omega)]
      by_cases a : v_K V 4 m = 0
      · rw [if_neg (by omega), e0, z_bd, if_pos (by unfold zr; omega)]
        by_cases b : v_K V 0 m = 1
        · rw [if_neg (by omega), s6, s5, if_pos (by omega), if_pos (by unfold zr; omega)]
          have hq2 : q_step V d w (q_cuts V d w m) m = q_breath V (q_cuts V d w m) m := by
            unfold q_step
            rw [if_neg (by omega), if_pos ⟨a, b⟩]
          by_cases c : v_K V 2 m - v_K V 1 m < v_S V 6
          · obtain ⟨τ, t1, t2, t3⟩ := m_lays hs (b := v_K V 1 m) (e := v_K V 2 m) (p := 0) (r := 0) (m := m) (by omega)
            rw [if_neg (by omega), e1, z_bd, e2, z_bd, t1, z_bd]
            refine hG τ ?_ t3
            rw [hq, hq2]
            unfold q_breath
            rw [if_pos c]
            exact t2
          · rw [if_pos (by omega), if_pos (by omega), if_pos (by unfold zr; omega)]
            by_cases c2 : v_S V 5 < v_K V 2 m - v_K V 1 m
            · obtain ⟨τ, t1, t2, t3⟩ := m_lays hs (b := v_K V 1 m + (v_S V 5 + 1).tdiv 2) (e := v_K V 2 m - (v_S V 5).tdiv 2) (p := 0) (r := 0) (m := m) (by omega)
              rw [if_neg (by omega), e1, z_bd, s5, if_pos (by omega), if_pos (by unfold zr; omega), e2, z_bd, s5, if_pos (by omega), if_pos (by unfold zr; omega), t1, z_bd]
              refine hG τ ?_ t3
              rw [hq, hq2]
              unfold q_breath
              rw [if_neg c, if_pos c2]
              exact t2
            · rw [if_pos (by omega)]
              refine hG σ ?_ z_ex_rf
              rw [hq, hq2]
              unfold q_breath
              rw [if_neg c, if_neg c2]
              exact hs
        · rw [if_pos (by omega)]
          refine hG σ ?_ z_ex_rf
          rw [hq]
          unfold q_step
          rw [if_neg (by omega), if_neg (by omega)]
          exact hs
      · rw [if_pos (by omega)]
        refine hG σ ?_ z_ex_rf
        rw [hq]
        unfold q_step
        rw [if_neg (by omega), if_neg (by omega)]
        exact hs
    unfold f_X6_finds_l7 f_X6_finds_b7
    rw [h8, if_pos (by omega), if_pos (by unfold zr; omega), if_neg (by omega), e2, z_bd, e1, z_bd, e4, z_bd, if_pos (by unfold zr; omega)]
    by_cases a : v_K V 4 m = 0
    · rw [if_neg (by omega), e0, z_bd, if_pos (by unfold zr; omega)]
      by_cases b : v_K V 0 m = 0
      · rw [if_neg (by omega), e3, z_bd, s0, if_pos (by omega), if_pos (by unfold zr; omega)]
        by_cases c : d < v_K V 3 m
        · rw [if_pos c]; exact hB (Or.inr (Or.inr c))
        · obtain ⟨τ, t1, t2, t3⟩ := m_fills hR hV hs hk (by omega) m1 hw
          rw [if_neg c, t1, z_bd]
          refine hG τ ?_ t3
          rw [hq]
          unfold q_step
          rw [if_pos (by omega)]
          exact t2
      · rw [if_pos (by omega)]
        exact hB (Or.inr (Or.inl b))
    · rw [if_pos (by omega)]
      exact hB (Or.inl a)
theorem m_finds {σ : zS} {V : zV} {d w : Int} (hR : v_Q (σ 1) V d w) (hV : v_ok V) (hd : 0 ≤ d ∧ d ≤ 100) (hw : 0 ≤ w ∧ w ≤ 20) : ∃ τ, f_X6_finds σ = some ((), τ) ∧ r_M τ (q_cuts V d w (v_M V).toNat) ∧ z_ex p_F σ τ := by
  have hM := hV.2.1
  have o1 : z_ex p_F σ (z_up σ 0 12 0) := z_ex_up z_ex_rf (Or.inr ⟨rfl, rfl⟩)
  obtain ⟨τ, t1, t2, t3⟩ := m_finds_l hV hd hw (v_M V).toNat 0 z_fuel (z_up σ 0 12 0) (by unfold z_fuel; omega) (by omega) (v_Q_eq hR (fun i => o1 1 i (by omega))) ⟨z_re, fun i h0 h1 => by have h1 : i < 0 := h1; omega⟩
  refine ⟨τ, t1, ?_, z_ex_tr o1 t3⟩
  rw [Nat.zero_add] at t2
  exact t2
/-- what sumOf adds up -/
def q_w (s : zL) (x : Int) : Int → Int := if x = 0 then (fun i => s.2 1 i - s.2 0 i) else if x = 1 then s.2 2 else s.2 3
theorem m_sumOf_l {σ : zS} {s : zL} {x : Int} (hs : r_M σ s) (hn : 0 ≤ s.1 ∧ s.1 ≤ 20) (hx : 0 ≤ x ∧ x ≤ 2) : ∀ (n i f : Nat) (y : Int), n < f → (i : Int) + n = s.1 → y = q_sum (q_w s x) i → f_X6_sumOf_l4 f σ x y (5 * i) = some (q_sum (q_w s x) (i + n), σ) := by
  intro n
  have h12 := hs.1
  induction n with
  | zero =>
    intro i f y hf hi hy
    obtain ⟨f, rfl⟩ : ∃ k, f = k + 1 := ⟨f - 1, by omega⟩
    unfold f_X6_sumOf_l4 f_X6_sumOf_b4
    rw [h12, if_pos (by unfold zr; omega), if_pos (by omega), hy]
    rfl
  | succ n ih =>
    intro i f y hf hi hy
    obtain ⟨f, rfl⟩ : ∃ k, f = k + 1 := ⟨f - 1, by omega⟩
    obtain ⟨g0, g1, g2, g3, g4⟩ := hs.2 i (by omega) (by omega)
    have e : ((5 * (i : Int)) + 5) = 5 * ((i + 1 : Nat) : Int) := by omega
    have e2 : i + 1 + n = i + (n + 1) := by omega
    unfold f_X6_sumOf_l4 f_X6_sumOf_b4 f_X6_sumOf_b47
    rw [h12, if_pos (by unfold zr; omega), if_neg (by omega), if_pos (by unfold zr; omega), e]
    have hy2 : q_sum (q_w s x) (i + 1) = y + q_w s x i := by rw [hy]; rfl
    rcases (show x = 0 ∨ x = 1 ∨ x = 2 by omega) with rfl | rfl | rfl
    · rw [if_neg (by omega), if_pos (by omega), if_pos (by omega), g1, g0, ih (i + 1) f _ (by omega) (by omega) (by rw [hy2]; rfl), e2]
    · rw [if_pos (by omega), if_pos (by omega), show (5 * (i : Int) + 1 + 1) = 5 * i + 2 by omega, g2, ih (i + 1) f _ (by omega) (by omega) (by rw [hy2]; rfl), e2]
    · rw [if_pos (by omega), if_pos (by omega), show (5 * (i : Int) + 1 + 2) = 5 * i + 3 by omega, g3, ih (i + 1) f _ (by omega) (by omega) (by rw [hy2]; rfl), e2]
theorem m_sumOf {σ : zS} {s : zL} {x : Int} (hs : r_M σ s) (hn : 0 ≤ s.1 ∧ s.1 ≤ 20) (hx : 0 ≤ x ∧ x ≤ 2) : f_X6_sumOf σ x = some (q_sum (q_w s x) s.1.toNat, σ) := by
  have := m_sumOf_l hs hn hx s.1.toNat 0 z_fuel 0 (by unfold z_fuel; omega) (by omega) rfl
  rw [Nat.zero_add] at this
  exact this
theorem q_cutOf_none {s : zL} {m : Int} : ∀ (n : Nat) (i : Int), (∀ k, i ≤ k → k < i + n → s.2 4 k ≠ m) → q_cutOf s m n i = -9 := by
  intro n
  induction n with
  | zero => intro i _; rfl
  | succ n ih =>
    intro i h
    unfold q_cutOf
    rw [if_neg (h i (by omega) (by omega))]
    exact ih (i + 1) (fun k h0 h1 => h k (by omega) (by omega))
theorem q_cok_mono {V : zV} {s : zL} {k : Int} (hk : q_cok V s k) : ∀ (n : Nat) (i : Int), 0 ≤ i → i + n < s.1 → s.2 4 i ≤ s.2 4 (i + n) ∧ (0 < n → s.2 4 i < s.2 4 (i + n)) ∧ (0 < n → s.2 1 i ≤ s.2 0 (i + n)) := by
  intro n
  induction n with
  | zero => intro i _ _; refine ⟨by simp, fun h => by omega, fun h => by omega⟩
  | succ n ih =>
    intro i h0 h1
    have h2 := ih i h0 (by omega)
    have h3 := hk.2.2.1 (i + n) (by omega) (by omega)
    have h4 := (hk.2.1 (i + n) (by omega) (by omega)).1
    have e : i + ((n + 1 : Nat) : Int) = i + n + 1 := by omega
    rw [e]
    refine ⟨by omega, fun _ => by omega, fun _ => ?_⟩
    by_cases hn : 0 < n
    · have := h2.2.2 hn; omega
    · have : n = 0 := by omega
      subst this
      simp at h3 ⊢
      exact h3.1
theorem m_cutOf_l {σ : zS} {V : zV} {s : zL} {k m : Int} (hs : r_M σ s) (hk : q_cok V s k) (hk2 : k ≤ 20) (hm : zr m) (hn : 0 ≤ s.1 ∧ s.1 ≤ 20) : ∀ (n f : Nat) (i y : Int), n < f → 0 ≤ i → i + n = s.1 → f_X6_cutOf_l5 f σ m y i = some (@ite Int (∀ k, i ≤ k → k < i + n → s.2 4 k ≠ m) (Classical.propDecidable _) y (q_cutOf s m n i), σ) := by
  intro n
  have h12 := hs.1
  unfold zr at hm
  induction n with
  | zero =>
    intro f i y hf i0 hi
    obtain ⟨f, rfl⟩ : ∃ k, f = k + 1 := ⟨f - 1, by omega⟩
    unfold f_X6_cutOf_l5 f_X6_cutOf_b5
    rw [h12, if_pos (by unfold zr; omega), if_pos (by omega), if_pos (fun k h0 h1 => by omega)]
  | succ n ih =>
    intro f i y hf i0 hi
    obtain ⟨f, rfl⟩ : ∃ k, f = k + 1 := ⟨f - 1, by omega⟩
    obtain ⟨g0, g1, g2, g3, g4⟩ := hs.2 i (by omega) (by omega)
    have h3 := (hk.2.1 i (by omega) (by omega)).2.2.2
    unfold f_X6_cutOf_l5 f_X6_cutOf_b5 f_X6_cutOf_b32 q_cutOf
    rw [h12, if_pos (by unfold zr; omega), if_neg (by omega), if_pos (by omega), g4, if_pos (by unfold zr; omega)]
    by_cases a : s.2 4 i = m
    · have hno : ∀ k, i + 1 ≤ k → k < i + 1 + n → s.2 4 k ≠ m := by
        intro k h0 h1 h2
        have := (q_cok_mono hk (k - i).toNat i i0 (by omega)).2.1 (by omega)
        rw [show i + ((k - i).toNat : Int) = k by omega] at this
        omega
      rw [if_neg (by omega), ih f (i + 1) i (by omega) (by omega) (by omega), if_pos hno, if_pos a, if_neg (fun h => h i (by omega) (by omega) a)]
    · rw [if_pos a, ih f (i + 1) y (by omega) (by omega) (by omega), if_neg a]
      by_cases b : ∀ k, i + 1 ≤ k → k < i + 1 + n → s.2 4 k ≠ m
      · rw [if_pos b, if_pos (fun k h0 h1 => by
          by_cases hki : k = i
          · rw [hki]; exact a
          · exact b k (by omega) (by omega))]
      · rw [if_neg b, if_neg (fun h => b (fun k h0 h1 => h k (by omega) (by omega)))]
theorem m_cutOf {σ : zS} {V : zV} {s : zL} {k m : Int} (hs : r_M σ s) (hk : q_cok V s k) (hk2 : k ≤ 20) (hm : zr m) (hn : 0 ≤ s.1 ∧ s.1 ≤ 20) : f_X6_cutOf σ m = some (q_cutOf s m s.1.toNat 0, σ) := by
  unfold f_X6_cutOf
  rw [m_cutOf_l hs hk hk2 hm hn s.1.toNat z_fuel 0 (-9) (by unfold z_fuel; omega) (by omega) (by omega)]
  by_cases b : ∀ k, 0 ≤ k → k < 0 + (s.1.toNat : Int) → s.2 4 k ≠ m
  · rw [if_pos b, q_cutOf_none _ _ b]
  · rw [if_neg b]
