/-! MARK -/
/-- 1 if one of the first marks overlaps -/
def q_ov (V : zV) (a b : Int) : Nat → Int
  | 0 => 0
  | m + 1 => if a < v_K V 2 m ∧ v_K V 1 m < b then 1 else q_ov V a b m
/-- how many of the first marks begin before a -/
def q_at (V : zV) (a : Int) : Nat → Int
  | 0 => 0
  | m + 1 => q_at V a m + (if v_K V 1 m < a then 1 else 0)
theorem q_ov_ok (V : zV) (a b : Int) : ∀ m, q_ov V a b m = 0 ∨ q_ov V a b m = 1 := by
  intro m
  induction m with
  | zero => exact Or.inl rfl
  | succ m ih => unfold q_ov; split <;> omega
theorem q_ov_mono {V : zV} {a b : Int} {m : Nat} (h : q_ov V a b m = 1) : ∀ n, q_ov V a b (m + n) = 1 := by
  intro n
  induction n with
  | zero => exact h
  | succ n ih =>
    show (if _ then _ else q_ov V a b (m + n)) = 1
    rw [ih]; split <;> rfl
/-- p is the place of a mark from a to b -/
def q_pl2 (V : zV) (a b p k : Int) : Prop := (0 ≤ p ∧ p ≤ k) ∧ (∀ i, 0 ≤ i → i < p → v_K V 2 i ≤ a) ∧ ∀ i, p ≤ i → i < k → b ≤ v_K V 1 i
theorem q_at_ok {V : zV} (hV : v_ok V) {a b : Int} (hab : a < b) : ∀ m : Nat, (m : Int) ≤ v_M V → q_ov V a b m = 0 → q_pl2 V a b (q_at V a m) m := by
  intro m
  induction m with
  | zero => intro _ _; exact ⟨⟨Int.le_refl _, Int.le_refl _⟩, fun i i0 i1 => by have i1 : i < 0 := i1; omega, fun i i0 i1 => by have i0 : 0 ≤ i := i0; omega⟩
  | succ m ih =>
    intro hm ho
    have hk := (hV.2.2.2.1 m (by omega) (by omega)).2.1
    have ho' : ¬ (a < v_K V 2 m ∧ v_K V 1 m < b) ∧ q_ov V a b m = 0 := by
      unfold q_ov at ho
      by_cases c : a < v_K V 2 m ∧ v_K V 1 m < b
      · rw [if_pos c] at ho; omega
      · rw [if_neg c] at ho; exact ⟨c, ho⟩
    obtain ⟨g1, g2, g3⟩ := ih (by omega) ho'.2
    unfold q_at
    by_cases c : v_K V 1 m < a
    · rw [if_pos c]
      have hq : q_at V a m = m := by
        by_cases d : q_at V a m < m
        · have h1 := g3 (q_at V a m) (Int.le_refl _) d
          have h2 := v_mono2 hV g1.1 d (by omega)
          have h3 := (hV.2.2.2.1 (q_at V a m) g1.1 (by omega)).2.1
          omega
        · omega
      rw [hq]
      refine ⟨by omega, fun i i0 i1 => ?_, fun i i0 i1 => by omega⟩
      by_cases e : i = m
      · rw [e]; omega
      · exact g2 i i0 (by omega)
    · rw [if_neg c]
      refine ⟨by omega, fun i i0 i1 => g2 i i0 (by omega), fun i i0 i1 => ?_⟩
      by_cases e : i = m
      · rw [e]; omega
      · exact g3 i (by omega) (by omega)
def v_ins (V : zV) (p k f t d : Int) : zV := (v_F V, v_M V + 1, v_L V, fun c i => if i < p then v_K V c i else if i = p then (if c = 0 then k else if c = 1 then f else if c = 2 then t else if c = 3 then d else 0) else v_K V c (i - 1), v_S V)
theorem v_ins_lo {V : zV} {p k f t d c i : Int} (h : i < p) : v_K (v_ins V p k f t d) c i = v_K V c i := by
  show (if i < p then _ else _) = _
  rw [if_pos h]
theorem v_ins_hi {V : zV} {p k f t d c i : Int} (h : p < i) : v_K (v_ins V p k f t d) c i = v_K V c (i - 1) := by
  show (if i < p then _ else if i = p then _ else _) = _
  rw [if_neg (by omega), if_neg (by omega)]
theorem v_ins_eq {V : zV} {p k f t d : Int} : v_K (v_ins V p k f t d) 0 p = k ∧ v_K (v_ins V p k f t d) 1 p = f ∧ v_K (v_ins V p k f t d) 2 p = t ∧ v_K (v_ins V p k f t d) 3 p = d ∧ v_K (v_ins V p k f t d) 4 p = 0 := by
  have h : ∀ c : Int, v_K (v_ins V p k f t d) c p = (if c = 0 then k else if c = 1 then f else if c = 2 then t else if c = 3 then d else 0) := by
    intro c
    show (if p < p then _ else if p = p then _ else _) = _
    rw [if_neg (by omega), if_pos rfl]
  rw [h, h, h, h, h]
  exact ⟨rfl, rfl, rfl, rfl, rfl⟩
theorem v_ins_ok {V : zV} (hV : v_ok V) {p k f t d : Int} (hM : v_M V < 20) (hp : q_pl2 V f t p (v_M V)) (hk : 0 ≤ k ∧ k ≤ 3) (hf : 0 ≤ f ∧ f < t ∧ t ≤ v_F V) (hd : 0 ≤ d ∧ d ≤ 100) : v_ok (v_ins V p k f t d) := by
  have hV' := hV
  obtain ⟨h1, h2, h3, h4, h5, h6⟩ := hV
  obtain ⟨p1, p2, p3⟩ := hp
  obtain ⟨e0, e1, e2, e3, e4⟩ := v_ins_eq (V := V) (p := p) (k := k) (f := f) (t := t) (d := d)
  refine ⟨h1, by show 0 ≤ v_M V + 1 ∧ v_M V + 1 ≤ 20; omega, h3, fun i i0 i1 => ?_, fun i i0 i1 => ?_, h6⟩
  · have i1 : i < v_M V + 1 := i1
    unfold v_mok
    by_cases a : i < p
    · rw [v_ins_lo a, v_ins_lo a, v_ins_lo a, v_ins_lo a, v_ins_lo a]
      exact h4 i i0 (by omega)
    · by_cases b : i = p
      · rw [b, e0, e1, e2, e3, e4]
        exact ⟨hk, hf, hd, by omega⟩
      · have b' : p < i := by omega
        rw [v_ins_hi b', v_ins_hi b', v_ins_hi b', v_ins_hi b', v_ins_hi b']
        exact h4 (i - 1) (by omega) (by omega)
  · have i1 : i + 1 < v_M V + 1 := i1
    by_cases a : i + 1 < p
    · rw [v_ins_lo (show i < p by omega), v_ins_lo a]
      exact h5 i i0 (by omega)
    · by_cases b : i + 1 = p
      · rw [v_ins_lo (show i < p by omega), b, e1]
        exact p2 i i0 (by omega)
      · rw [v_ins_hi (show p < i + 1 by omega)]
        rw [show i + 1 - 1 = i by omega]
        by_cases c : i = p
        · rw [c, e2]
          exact p3 p (Int.le_refl _) (by omega)
        · rw [v_ins_hi (show p < i by omega)]
          have := h5 (i - 1) (by omega) (by omega)
          rw [show i - 1 + 1 = i by omega] at this
          exact this
theorem c_overlaps_l {σ : zS} {V : zV} {a b : Int} (hC : v_C σ 0 V) (hV : v_ok V) (ha : 0 ≤ a ∧ a ≤ 200) (hb : 0 ≤ b ∧ b ≤ 200) : ∀ (n m f : Nat), n < f → (m : Int) + n = v_M V → q_ov V a b m = 0 → f_X2_overlaps_l2 0 f σ a b m = some (q_ov V a b (m + n), σ) := by
  intro n
  have hM := hV.2.1
  have hF := hV.1
  have h7 := (v_C0 hC).2.1
  induction n with
  | zero =>
    intro m f hf hm ho
    obtain ⟨f, rfl⟩ : ∃ k, f = k + 1 := ⟨f - 1, by omega⟩
    unfold f_X2_overlaps_l2 f_X2_overlaps_b2
    simp only [Nat.mul_zero]
    rw [h7, if_pos (by unfold zr; omega), if_pos (by omega)]
    show _ = some (q_ov V a b m, σ)
    rw [ho]
  | succ n ih =>
    intro m f hf hm ho
    obtain ⟨f, rfl⟩ : ∃ k, f = k + 1 := ⟨f - 1, by omega⟩
    have hk := (hV.2.2.2.1 m (by omega) (by omega)).2.1
    obtain ⟨e0, e1, e2, e3, e4⟩ := (v_C0 hC).2.2.2.1 m (by omega) (by omega)
    have hq : q_ov V a b (m + 1) = if a < v_K V 2 m ∧ v_K V 1 m < b then 1 else q_ov V a b m := rfl
    unfold f_X2_overlaps_l2 f_X2_overlaps_b2 f_X2_overlaps_b32
    simp only [Nat.mul_zero, Nat.zero_add]
    rw [h7, e1, e2, if_pos (by unfold zr; omega), if_neg (by omega), if_pos (by omega), if_pos (by unfold zr; omega)]
    rw [show m + (n + 1) = m + 1 + n by omega]
    by_cases c : a < v_K V 2 m ∧ v_K V 1 m < b
    · rw [if_pos c] at hq
      rw [if_neg (by omega), if_pos (by omega), if_pos (by unfold zr; omega), if_neg (by omega), q_ov_mono hq n]
    · rw [if_neg c, ho] at hq
      have ih := ih (m + 1) f (by omega) (by omega) hq
      rw [show ((m + 1 : Nat) : Int) = (m : Int) + 1 by omega] at ih
      by_cases d : v_K V 2 m ≤ a
      · rw [if_pos d]; exact ih
      · rw [if_neg d, if_pos (by omega), if_pos (by unfold zr; omega), if_pos (by omega)]; exact ih
theorem c_overlaps {σ : zS} {V : zV} {a b : Int} (hC : v_C σ 0 V) (hV : v_ok V) (ha : 0 ≤ a ∧ a ≤ 200) (hb : 0 ≤ b ∧ b ≤ 200) : f_X2_overlaps 0 σ a b = some (q_ov V a b (v_M V).toNat, σ) := by
  have hM := hV.2.1
  have := c_overlaps_l hC hV ha hb (v_M V).toNat 0 z_fuel (by unfold z_fuel; omega) (by omega) rfl
  rw [Nat.zero_add] at this
  exact this
theorem c_add53 {σ : zS} {k f t d x : Int} (hx : 0 ≤ x ∧ x < 20) : ∃ τ, f_X2_addMark_b53 0 σ k f t d x = some (x, τ) ∧ (∀ y, τ 2 y = (if y = x then k else σ 2 y) ∧ τ 3 y = (if y = x then f else σ 3 y) ∧ τ 4 y = (if y = x then t else σ 4 y) ∧ τ 5 y = (if y = x then d else σ 5 y) ∧ τ 6 y = (if y = x then 0 else σ 6 y)) ∧ τ 0 7 = σ 0 7 + 1 ∧ τ 0 1 = σ 0 1 ∧ (∀ a, a ≠ 0 → (a < 2 ∨ 6 < a) → τ a = σ a) := by
  refine ⟨z_up (z_up (z_up (z_up (z_up (z_up σ 2 x k) 3 x f) 4 x t) 5 x d) 6 x 0) 0 7 (σ 0 7 + 1), ?_, fun y => ?_, z_re, ?_, fun a a0 a1 => ?_⟩
  · unfold f_X2_addMark_b53
    simp only [Nat.mul_zero, Nat.zero_add]
    rw [if_pos (by omega), z_put, if_pos (by omega), z_put, if_pos (by omega), z_put, if_pos (by omega), z_put, if_pos (by omega), z_put, z_put]
    rw [z_rn (by omega), z_rn (by omega), z_rn (by omega), z_rn (by omega), z_rn (by omega)]
  · by_cases e : y = x
    · simp only [if_pos e]
      rw [e]
      refine ⟨?_, ?_, ?_, ?_, ?_⟩
      · rw [z_rn (by omega), z_rn (by omega), z_rn (by omega), z_rn (by omega), z_rn (by omega), z_re]
      · rw [z_rn (by omega), z_rn (by omega), z_rn (by omega), z_rn (by omega), z_re]
      · rw [z_rn (by omega), z_rn (by omega), z_rn (by omega), z_re]
      · rw [z_rn (by omega), z_rn (by omega), z_re]
      · rw [z_rn (by omega), z_re]
    · simp only [if_neg e]
      refine ⟨?_, ?_, ?_, ?_, ?_⟩
      · rw [z_rn (by omega), z_ri e, z_ri e, z_ri e, z_ri e, z_ri e]
      · rw [z_rn (by omega), z_ri e, z_ri e, z_ri e, z_ri e, z_ri e]
      · rw [z_rn (by omega), z_ri e, z_ri e, z_ri e, z_ri e, z_ri e]
      · rw [z_rn (by omega), z_ri e, z_ri e, z_ri e, z_ri e, z_ri e]
      · rw [z_rn (by omega), z_ri e, z_ri e, z_ri e, z_ri e, z_ri e]
  · rw [z_ri (by omega), z_rn (by omega), z_rn (by omega), z_rn (by omega), z_rn (by omega), z_rn (by omega)]
  · funext b
    rw [z_rn (by omega), z_rn (by omega), z_rn (by omega), z_rn (by omega), z_rn (by omega), z_rn (by omega)]
theorem c_addMark_l {V : zV} {k f t d p : Int} (hV : v_ok V) (hM : v_M V < 20) (hp : q_pl2 V f t p (v_M V)) (hf : 0 ≤ f ∧ f < t ∧ t ≤ v_F V) : ∀ (n g : Nat) (x : Int) (σ : zS), n < g → p + n = x → x ≤ v_M V → σ 0 7 = v_M V → (∀ i, 0 ≤ i → i < x → σ 2 i = v_K V 0 i ∧ σ 3 i = v_K V 1 i ∧ σ 4 i = v_K V 2 i ∧ σ 5 i = v_K V 3 i ∧ σ 6 i = v_K V 4 i) → (∀ i, x < i → i ≤ v_M V → σ 2 i = v_K V 0 (i - 1) ∧ σ 3 i = v_K V 1 (i - 1) ∧ σ 4 i = v_K V 2 (i - 1) ∧ σ 5 i = v_K V 3 (i - 1) ∧ σ 6 i = v_K V 4 (i - 1)) → ∃ τ, f_X2_addMark_l18 0 g σ k f t d x = some (p, τ) ∧ (∀ i, 0 ≤ i → i < v_M V + 1 → τ 2 i = v_K (v_ins V p k f t d) 0 i ∧ τ 3 i = v_K (v_ins V p k f t d) 1 i ∧ τ 4 i = v_K (v_ins V p k f t d) 2 i ∧ τ 5 i = v_K (v_ins V p k f t d) 3 i ∧ τ 6 i = v_K (v_ins V p k f t d) 4 i) ∧ τ 0 7 = v_M V + 1 ∧ τ 0 1 = σ 0 1 ∧ (∀ a, a ≠ 0 → (a < 2 ∨ 6 < a) → τ a = σ a) := by
  intro n
  have hM0 := hV.2.1
  have hF := hV.1
  obtain ⟨p1, p2, p3⟩ := hp
  induction n with
  | zero =>
    intro g x σ hg hx hxM h7 hlo hhi
    obtain ⟨g, rfl⟩ : ∃ k, g = k + 1 := ⟨g - 1, by omega⟩
    have hxp : x = p := by omega
    subst hxp
    obtain ⟨τ, t1, t2, t3, t4, t5⟩ := c_add53 (σ := σ) (k := k) (f := f) (t := t) (d := d) (x := x) (by omega)
    refine ⟨τ, ?_, fun i i0 i1 => ?_, by rw [t3, h7], t4, t5⟩
    · show f_X2_addMark_b18 0 (f_X2_addMark_l18 0 g) σ k f t d x = _
      unfold f_X2_addMark_b18
      rw [if_pos (by unfold zr; omega)]
      by_cases a : x ≤ 0
      · rw [if_pos a]; exact t1
      · have h1 := (hlo (x - 1) (by omega) (by omega)).2.1
        have h2 := p2 (x - 1) (by omega) (by omega)
        have h3 := (hV.2.2.2.1 (x - 1) (by omega) (by omega)).2.1
        simp only [Nat.mul_zero, Nat.zero_add]
        rw [if_neg a, if_pos (by omega), h1, if_pos (by unfold zr; omega), if_pos (by omega)]
        exact t1
    · obtain ⟨k0, k1, k2, k3, k4⟩ := t2 i
      rw [k0, k1, k2, k3, k4]
      by_cases a : i < x
      · simp only [if_neg (show ¬ i = x by omega)]
        rw [v_ins_lo a, v_ins_lo a, v_ins_lo a, v_ins_lo a, v_ins_lo a]
        exact hlo i i0 a
      · by_cases b : i = x
        · simp only [if_pos b]
          rw [b]
          obtain ⟨e0, e1, e2, e3, e4⟩ := v_ins_eq (V := V) (p := x) (k := k) (f := f) (t := t) (d := d)
          rw [e0, e1, e2, e3, e4]
          exact ⟨rfl, rfl, rfl, rfl, rfl⟩
        · simp only [if_neg b]
          have b' : x < i := by omega
          rw [v_ins_hi b', v_ins_hi b', v_ins_hi b', v_ins_hi b', v_ins_hi b']
          exact hhi i b' (by omega)
  | succ n ih =>
    intro g x σ hg hx hxM h7 hlo hhi
    obtain ⟨g, rfl⟩ : ∃ k, g = k + 1 := ⟨g - 1, by omega⟩
    obtain ⟨g0, g1, g2, g3, g4⟩ := hlo (x - 1) (by omega) (by omega)
    have hk := hV.2.2.2.1 (x - 1) (by omega) (by omega)
    unfold v_mok at hk
    have hb := p3 (x - 1) (by omega) (by omega)
    obtain ⟨υ, u1, u2, u3⟩ := c_mv (σ := σ) (a := x - 1) (b := x) (by omega) (by omega) (by omega)
    obtain ⟨τ, t1, t2, t3, t4, t5⟩ := ih g (x - 1) υ (by omega) (by omega) (by omega) (by rw [u3 0 (by omega)]; exact h7) (fun i i0 i1 => by
      obtain ⟨k0, k1, k2, k3, k4⟩ := u2 i
      rw [k0, k1, k2, k3, k4]
      simp only [if_neg (show ¬ i = x by omega)]
      exact hlo i i0 (by omega)) (fun i i0 i1 => by
      obtain ⟨k0, k1, k2, k3, k4⟩ := u2 i
      rw [k0, k1, k2, k3, k4]
      by_cases e : i = x
      · simp only [if_pos e]
        rw [e]
        exact ⟨g0, g1, g2, g3, g4⟩
      · simp only [if_neg e]
        exact hhi i (by omega) i1)
    refine ⟨τ, ?_, t2, t3, by rw [t4, u3 0 (by omega)], fun a a0 a1 => by rw [t5 a a0 a1, u3 a (by omega)]⟩
    show f_X2_addMark_b18 0 (f_X2_addMark_l18 0 g) σ k f t d x = _
    unfold f_X2_addMark_b18
    simp only [Nat.mul_zero, Nat.zero_add]
    rw [if_pos (by unfold zr; omega), if_neg (by omega), if_pos (by omega), g1, if_pos (by unfold zr; omega), if_neg (by omega), u1, z_bd]
    exact t1
theorem c_addMark {σ : zS} {V : zV} {k f t d p : Int} (hC : v_C σ 0 V) (hV : v_ok V) (hM : v_M V < 20) (hp : q_pl2 V f t p (v_M V)) (hf : 0 ≤ f ∧ f < t ∧ t ≤ v_F V) : ∃ τ, f_X2_addMark 0 σ k f t d = some (p, τ) ∧ v_C τ 0 (v_ins V p k f t d) ∧ (∀ a, 8 ≤ a → τ a = σ a) := by
  have hM0 := hV.2.1
  obtain ⟨f1, f2, f3, f4, f5⟩ := v_C0 hC
  obtain ⟨τ, t1, t2, t3, t4, t5⟩ := c_addMark_l (k := k) (d := d) hV hM hp hf (v_M V - p).toNat z_fuel (v_M V) σ (by have := hp.1; unfold z_fuel; omega) (by have := hp.1; omega) (Int.le_refl _) f2 f4 (fun i i0 i1 => by omega)
  refine ⟨τ, ?_, ⟨t4.trans f1, t3, fun i i0 i1 => ?_, t2, fun i i0 i1 => ?_⟩, fun a ha => t5 a (by omega) (by omega)⟩
  · unfold f_X2_addMark
    simp only [Nat.mul_zero]
    rw [f2, if_pos (by unfold zr; omega), if_pos hM]
    exact t1
  · have : τ 1 = σ 1 := t5 1 (by omega) (by omega)
    show τ 1 i = _
    rw [this]; exact f3 i i0 i1
  · have : τ 7 = σ 7 := t5 7 (by omega) (by omega)
    show τ 7 i = _
    rw [this]; exact f5 i i0 i1
