/-! THE CLASS' CUTS, ALL; THEIR SUMS -/
theorem c_addBreath {σ : zS} {V : zV} {s : zL} {m : Int} (hC : v_C σ 0 V) (hV : v_ok V) (hs : r_C σ s) (hk : q_cok V s m) (m0 : 0 ≤ m) (m1 : m < v_M V) : ∃ τ, f_X0_addBreathCut σ m = some ((), τ) ∧ r_C τ (q_breath V s m) ∧ z_out 48 53 σ τ := by
  have hM := hV.2.1
  have hF := hV.1
  have hm := (hV.2.2.2.1 m m0 m1).2.1
  obtain ⟨e2, e3, e4, e5, e6⟩ := (v_C0 hC).2.2.2.1 m m0 m1
  have s5 := (v_C0 hC).2.2.2.2 5 (by omega) (by omega)
  have s6 := (v_C0 hC).2.2.2.2 6 (by omega) (by omega)
  have hn := hk.1
  have hs5 := hV.2.2.2.2.2.2.2.2.2.2.1
  have hs6 := hV.2.2.2.2.2.2.2.2.2.2.2
  unfold f_X0_addBreathCut q_breath f_X0_addBreathCut_b81
  rw [e3, e4, s5, s6, if_pos (by omega), if_pos (by omega), if_pos (by omega), if_pos (by omega), if_pos (by omega)]
  by_cases a : v_K V 2 m - v_K V 1 m < v_S V 6
  · obtain ⟨τ, t1, t2, t3⟩ := c_addCut hs (b := v_K V 1 m) (e := v_K V 2 m) (p := 0) (r := 0) (m := m) (by omega) (by omega)
    refine ⟨τ, ?_, ?_, t3⟩
    · rw [if_neg (by omega), t1]; rfl
    · rw [if_pos a]; exact t2
  · rw [if_pos (by omega), if_pos (by omega), if_neg a]
    by_cases b : v_S V 5 < v_K V 2 m - v_K V 1 m
    · obtain ⟨τ, t1, t2, t3⟩ := c_addCut hs (b := v_K V 1 m + (v_S V 5 + 1).tdiv 2) (e := v_K V 2 m - (v_S V 5).tdiv 2) (p := 0) (r := 0) (m := m) (by omega) (by omega)
      refine ⟨τ, ?_, ?_, t3⟩
      · rw [if_neg (by omega), if_pos (by omega), if_pos (by omega), t1]; rfl
      · rw [if_pos b]; exact t2
    · refine ⟨σ, ?_, ?_, z_out_rf⟩
      · rw [if_pos (by omega)]
      · rw [if_neg b]; exact hs
theorem c_find_l {V : zV} {d w : Int} (hV : v_ok V) (hd : 0 ≤ d ∧ d ≤ 100) (hw : 0 ≤ w ∧ w ≤ 20) : ∀ (n m f : Nat) (σ : zS), n < f → (m : Int) + n = v_M V → v_C σ 0 V → r_C σ (q_cuts V d w m) → ∃ τ, f_X0_find_l8 f σ d w m = some ((), τ) ∧ r_C τ (q_cuts V d w (m + n)) ∧ z_out 48 53 σ τ := by
  intro n
  have hM := hV.2.1
  induction n with
  | zero =>
    intro m f σ hf hm hC hs
    obtain ⟨f, rfl⟩ : ∃ k, f = k + 1 := ⟨f - 1, by omega⟩
    refine ⟨σ, ?_, hs, z_out_rf⟩
    have h7 := (v_C0 hC).2.1
    unfold f_X0_find_l8 f_X0_find_b8
    rw [h7, if_pos (by omega), if_pos (by omega)]
  | succ n ih =>
    intro m f σ hf hm hC hs
    obtain ⟨f, rfl⟩ : ∃ k, f = k + 1 := ⟨f - 1, by omega⟩
    have h7 := (v_C0 hC).2.1
    have m1 : (m : Int) < v_M V := by omega
    obtain ⟨e2, e3, e4, e5, e6⟩ := (v_C0 hC).2.2.2.1 m (by omega) m1
    have hmk := hV.2.2.2.1 m (by omega) m1
    have hk := q_cuts_ok hV (d := d) (w := w) m (by omega)
    have hG : ∀ τ, r_C τ (q_cuts V d w (m + 1)) → z_out 48 53 σ τ → ∃ υ, f_X0_find_b80 (f_X0_find_l8 f) τ d w m = some ((), υ) ∧ r_C υ (q_cuts V d w (m + (n + 1))) ∧ z_out 48 53 σ υ := by
      intro τ h1 h2
      obtain ⟨υ, u1, u2, u3⟩ := ih (m + 1) f τ (by omega) (by omega) (v_C_out hC h2 (by omega)) h1
      refine ⟨υ, ?_, ?_, z_out_tr h2 u3⟩
      · unfold f_X0_find_b80
        have e : ((m : Int) + 1) = ((m + 1 : Nat) : Int) := by omega
        rw [e]; exact u1
      · have e : m + (n + 1) = m + 1 + n := by omega
        rw [e]; exact u2
    have hq : q_cuts V d w (m + 1) = q_step V d w (q_cuts V d w m) m := rfl
    unfold f_X0_find_l8 f_X0_find_b8
    unfold v_mok at hmk
    rw [h7, e6, if_pos (by omega), if_neg (by omega), if_pos (by omega), if_pos (by omega)]
    by_cases a : v_K V 4 m = 0
    · have hB : (¬ v_K V 0 m = 0 ∨ d < v_K V 3 m) → ∃ υ, f_X0_find_b62 (f_X0_find_l8 f) σ d w m = some ((), υ) ∧ r_C υ (q_cuts V d w (m + (n + 1))) ∧ z_out 48 53 σ υ := by
        intro hne
        unfold f_X0_find_b62
        rw [e2, if_pos (by omega), if_pos (by omega)]
        by_cases b : v_K V 0 m = 1
        · obtain ⟨τ, t1, t2, t3⟩ := c_addBreath hC hV hs hk (by omega) m1
          rw [if_neg (by omega), t1, z_bd]
          refine hG τ ?_ t3
          rw [hq]
          unfold q_step
          rw [if_neg (by omega), if_pos ⟨a, b⟩]
          exact t2
        · rw [if_pos (by omega)]
          refine hG σ ?_ z_out_rf
          rw [hq]
          unfold q_step
          rw [if_neg (by omega), if_neg (by omega)]
          exact hs
      rw [if_pos a, e2, if_pos (by omega), if_pos (by omega)]
      by_cases b : v_K V 0 m = 0
      · rw [if_neg (by omega), if_pos (by omega), e5, if_pos (by omega)]
        by_cases c : d < v_K V 3 m
        · rw [if_pos c]; exact hB (Or.inr c)
        · obtain ⟨τ, t1, t2, t3⟩ := c_addFiller hC hV hs hk (by omega) m1 hw
          rw [if_neg c, t1, z_bd]
          refine hG τ ?_ t3
          rw [hq]
          unfold q_step
          rw [if_pos (by omega)]
          exact t2
      · rw [if_pos (by omega)]
        exact hB (Or.inl b)
    · rw [if_neg a]
      refine hG σ ?_ z_out_rf
      rw [hq]
      unfold q_step
      rw [if_neg (by omega), if_neg (by omega)]
      exact hs
theorem c_find {σ : zS} {V : zV} {d w : Int} (hC : v_C σ 0 V) (hV : v_ok V) (hd : 0 ≤ d ∧ d ≤ 100) (hw : 0 ≤ w ∧ w ≤ 20) : ∃ τ, f_X0_find σ d w = some ((), τ) ∧ r_C τ (q_cuts V d w (v_M V).toNat) ∧ z_out 48 53 σ τ := by
  have hM := hV.2.1
  have o1 : z_out 48 53 σ (z_up σ 48 5 0) := z_out_up z_out_rf (by omega) (by omega)
  obtain ⟨τ, t1, t2, t3⟩ := c_find_l hV hd hw (v_M V).toNat 0 z_fuel (z_up σ 48 5 0) (by unfold z_fuel; omega) (by omega) (v_C_out hC o1 (by omega)) ⟨z_re, fun i h0 h1 => by have h1 : i < 0 := h1; omega⟩
  refine ⟨τ, t1, ?_, z_out_tr o1 t3⟩
  rw [Nat.zero_add] at t2
  exact t2
/-- a sum over a list's first n -/
def q_sum (f : Int → Int) : Nat → Int
  | 0 => 0
  | n + 1 => q_sum f n + f n
theorem q_sum_le {f : Int → Int} {b : Int} : ∀ n : Nat, (∀ i, 0 ≤ i → i < n → 0 ≤ f i ∧ f i ≤ b) → 0 ≤ q_sum f n ∧ q_sum f n ≤ b * n := by
  intro n
  induction n with
  | zero => intro _; simp [q_sum]
  | succ n ih =>
    intro h
    have h1 := ih (fun i h0 h1 => h i h0 (by omega))
    have h2 := h n (by omega) (by omega)
    have h3 : b * ((n + 1 : Nat) : Int) = b * n + b := by rw [Int.natCast_add, Int.mul_add]; simp
    unfold q_sum
    rw [h3]
    omega
theorem c_cutFrames_l {σ : zS} {s : zL} (hs : r_C σ s) (hn : 0 ≤ s.1 ∧ s.1 ≤ 20) : ∀ (n i f : Nat) (x : Int), n < f → (i : Int) + n = s.1 → x = q_sum (fun i => s.2 1 i - s.2 0 i) i → f_X0_cutFrames_l4 f σ x i = some (q_sum (fun i => s.2 1 i - s.2 0 i) (i + n), σ) := by
  intro n
  have h5 := hs.1
  induction n with
  | zero =>
    intro i f x hf hi hx
    obtain ⟨f, rfl⟩ : ∃ k, f = k + 1 := ⟨f - 1, by omega⟩
    unfold f_X0_cutFrames_l4 f_X0_cutFrames_b4
    rw [h5, if_pos (by omega), if_pos (by omega), hx]
    rfl
  | succ n ih =>
    intro i f x hf hi hx
    obtain ⟨f, rfl⟩ : ∃ k, f = k + 1 := ⟨f - 1, by omega⟩
    obtain ⟨g0, g1, g2, g3, g4⟩ := hs.2 i (by omega) (by omega)
    unfold f_X0_cutFrames_l4 f_X0_cutFrames_b4
    rw [h5, if_pos (by omega), if_neg (by omega), if_pos (by omega), if_pos (by omega), g0, g1]
    have e : ((i : Int) + 1) = ((i + 1 : Nat) : Int) := by omega
    rw [e, ih (i + 1) f _ (by omega) (by omega) (by rw [hx]; rfl)]
    have e : i + 1 + n = i + (n + 1) := by omega
    rw [e]
theorem c_cutFrames {σ : zS} {s : zL} (hs : r_C σ s) (hn : 0 ≤ s.1 ∧ s.1 ≤ 20) : f_X0_cutFrames σ = some (q_sum (fun i => s.2 1 i - s.2 0 i) s.1.toNat, σ) := by
  have := c_cutFrames_l hs hn s.1.toNat 0 z_fuel 0 (by unfold z_fuel; omega) (by omega) rfl
  rw [Nat.zero_add] at this
  exact this
theorem c_pauseFrames_l {σ : zS} {s : zL} (hs : r_C σ s) (hn : 0 ≤ s.1 ∧ s.1 ≤ 20) : ∀ (n i f : Nat) (x : Int), n < f → (i : Int) + n = s.1 → x = q_sum (s.2 2) i → f_X0_pauseFrames_l4 f σ x i = some (q_sum (s.2 2) (i + n), σ) := by
  intro n
  have h5 := hs.1
  induction n with
  | zero =>
    intro i f x hf hi hx
    obtain ⟨f, rfl⟩ : ∃ k, f = k + 1 := ⟨f - 1, by omega⟩
    unfold f_X0_pauseFrames_l4 f_X0_pauseFrames_b4
    rw [h5, if_pos (by omega), if_pos (by omega), hx]
    rfl
  | succ n ih =>
    intro i f x hf hi hx
    obtain ⟨f, rfl⟩ : ∃ k, f = k + 1 := ⟨f - 1, by omega⟩
    obtain ⟨g0, g1, g2, g3, g4⟩ := hs.2 i (by omega) (by omega)
    unfold f_X0_pauseFrames_l4 f_X0_pauseFrames_b4
    rw [h5, if_pos (by omega), if_neg (by omega), if_pos (by omega), g2]
    have e : ((i : Int) + 1) = ((i + 1 : Nat) : Int) := by omega
    rw [e, ih (i + 1) f _ (by omega) (by omega) (by rw [hx]; rfl)]
    have e : i + 1 + n = i + (n + 1) := by omega
    rw [e]
theorem c_pauseFrames {σ : zS} {s : zL} (hs : r_C σ s) (hn : 0 ≤ s.1 ∧ s.1 ≤ 20) : f_X0_pauseFrames σ = some (q_sum (s.2 2) s.1.toNat, σ) := by
  have := c_pauseFrames_l hs hn s.1.toNat 0 z_fuel 0 (by unfold z_fuel; omega) (by omega) rfl
  rw [Nat.zero_add] at this
  exact this
theorem c_roughCuts_l {σ : zS} {V : zV} {s : zL} {k : Int} (hs : r_C σ s) (hk : q_cok V s k) (hn : 0 ≤ s.1 ∧ s.1 ≤ 20) : ∀ (n i f : Nat) (x : Int), n < f → (i : Int) + n = s.1 → x = q_sum (s.2 3) i → f_X0_roughCuts_l4 f σ x i = some (q_sum (s.2 3) (i + n), σ) := by
  intro n
  have h5 := hs.1
  induction n with
  | zero =>
    intro i f x hf hi hx
    obtain ⟨f, rfl⟩ : ∃ k, f = k + 1 := ⟨f - 1, by omega⟩
    unfold f_X0_roughCuts_l4 f_X0_roughCuts_b4
    rw [h5, if_pos (by omega), if_pos (by omega), hx]
    rfl
  | succ n ih =>
    intro i f x hf hi hx
    obtain ⟨f, rfl⟩ : ∃ k, f = k + 1 := ⟨f - 1, by omega⟩
    obtain ⟨g0, g1, g2, g3, g4⟩ := hs.2 i (by omega) (by omega)
    have h3 := (hk.2.1 i (by omega) (by omega)).2.2.1
    unfold f_X0_roughCuts_l4 f_X0_roughCuts_b4 f_X0_roughCuts_b27
    have e : ((i : Int) + 1) = ((i + 1 : Nat) : Int) := by omega
    rw [h5, if_pos (by omega), if_neg (by omega), if_pos (by omega), g3, if_pos (by omega), e]
    have e2 : i + 1 + n = i + (n + 1) := by omega
    by_cases a : s.2 3 i = 0
    · rw [if_pos a, ih (i + 1) f _ (by omega) (by omega) (by rw [hx]; show _ = q_sum _ i + s.2 3 i; rw [a]), e2]
    · rw [if_neg a, ih (i + 1) f _ (by omega) (by omega) (by rw [hx]; show _ = q_sum _ i + s.2 3 i; rw [show s.2 3 i = 1 by omega]), e2]
theorem c_roughCuts {σ : zS} {V : zV} {s : zL} {k : Int} (hs : r_C σ s) (hk : q_cok V s k) (hn : 0 ≤ s.1 ∧ s.1 ≤ 20) : f_X0_roughCuts σ = some (q_sum (s.2 3) s.1.toNat, σ) := by
  have := c_roughCuts_l hs hk hn s.1.toNat 0 z_fuel 0 (by unfold z_fuel; omega) (by omega) rfl
  rw [Nat.zero_add] at this
  exact this
/-- the cut of a mark, from the place i on, in n turns -/
def q_cutOf (s : zL) (m : Int) : Nat → Int → Int
  | 0, _ => -9
  | n + 1, i => if s.2 4 i = m then i else q_cutOf s m n (i + 1)
theorem c_cutOf_l {σ : zS} {V : zV} {s : zL} {k m : Int} (hs : r_C σ s) (hk : q_cok V s k) (hk2 : k ≤ 20) (hm : zr m) (hn : 0 ≤ s.1 ∧ s.1 ≤ 20) : ∀ (n f : Nat) (i : Int), n < f → 0 ≤ i → i + n = s.1 → f_X0_cutOfMark_l2 f σ m i = some (q_cutOf s m n i, σ) := by
  intro n
  have h5 := hs.1
  unfold zr at hm
  induction n with
  | zero =>
    intro f i hf i0 hi
    obtain ⟨f, rfl⟩ : ∃ k, f = k + 1 := ⟨f - 1, by omega⟩
    unfold f_X0_cutOfMark_l2 f_X0_cutOfMark_b2
    rw [h5, if_pos (by omega), if_pos (by omega)]
    rfl
  | succ n ih =>
    intro f i hf i0 hi
    obtain ⟨f, rfl⟩ : ∃ k, f = k + 1 := ⟨f - 1, by omega⟩
    obtain ⟨g0, g1, g2, g3, g4⟩ := hs.2 i (by omega) (by omega)
    have h3 := (hk.2.1 i (by omega) (by omega)).2.2.2
    unfold f_X0_cutOfMark_l2 f_X0_cutOfMark_b2 q_cutOf
    rw [h5, if_pos (by omega), if_neg (by omega), if_pos (by omega), g4, if_pos (by omega)]
    by_cases a : s.2 4 i = m
    · rw [if_neg (by omega), if_pos a]
    · rw [if_pos a, if_neg a]
      exact ih f (i + 1) (by omega) (by omega) (by omega)
theorem c_cutOf {σ : zS} {V : zV} {s : zL} {k m : Int} (hs : r_C σ s) (hk : q_cok V s k) (hk2 : k ≤ 20) (hm : zr m) (hn : 0 ≤ s.1 ∧ s.1 ≤ 20) : f_X0_cutOfMark σ m = some (q_cutOf s m s.1.toNat 0, σ) := c_cutOf_l hs hk hk2 hm hn s.1.toNat z_fuel 0 (by unfold z_fuel; omega) (by omega) (by omega)
