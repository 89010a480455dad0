/-! WHAT IS COMPUTED: a recording as numbers, its cuts, its result; and what holds of them -/
theorem z_ifp {α : Type} {c : Prop} [Decidable c] {A B : α} (h : c) : (if c then A else B) = A := if_pos h
theorem z_ifn {α : Type} {c : Prop} [Decidable c] {A B : α} (h : ¬ c) : (if c then A else B) = B := if_neg h
theorem z_bd {α β : Type} (a : α) (s : zS) (K : α → zS → Option β) : z_bind (some (a, s)) K = K a s := rfl
theorem z_f1 (n : Nat) (h : n ≤ 90000) : ∃ k, z_fuel = k + n := ⟨z_fuel - n, by unfold z_fuel; omega⟩
-- a recording: frames, marks, levels, of each mark its five numbers, settings
abbrev zV : Type := Int × Int × (Int → Int) × (Int → Int → Int) × (Int → Int)
abbrev v_F (V : zV) : Int := V.1
abbrev v_M (V : zV) : Int := V.2.1
abbrev v_L (V : zV) : Int → Int := V.2.2.1
abbrev v_K (V : zV) : Int → Int → Int := V.2.2.2.1
abbrev v_S (V : zV) : Int → Int := V.2.2.2.2
/-- a mark that may stand -/
def v_mok (V : zV) (m : Int) : Prop := (0 ≤ v_K V 0 m ∧ v_K V 0 m ≤ 3) ∧ (0 ≤ v_K V 1 m ∧ v_K V 1 m < v_K V 2 m ∧ v_K V 2 m ≤ v_F V) ∧ (0 ≤ v_K V 3 m ∧ v_K V 3 m ≤ 100) ∧ (0 ≤ v_K V 4 m ∧ v_K V 4 m ≤ 1)
def v_sok (S : Int → Int) : Prop := (0 ≤ S 0 ∧ S 0 ≤ 100) ∧ (0 ≤ S 1 ∧ S 1 ≤ 9) ∧ (0 ≤ S 2 ∧ S 2 ≤ 20) ∧ (0 ≤ S 3 ∧ S 3 ≤ 50) ∧ (0 ≤ S 4 ∧ S 4 ≤ 100) ∧ (0 ≤ S 5 ∧ S 5 ≤ 50) ∧ (0 ≤ S 6 ∧ S 6 ≤ 50)
def v_ok (V : zV) : Prop := (0 ≤ v_F V ∧ v_F V ≤ 200) ∧ (0 ≤ v_M V ∧ v_M V ≤ 20) ∧ (∀ i, 0 ≤ i → i < v_F V → 0 ≤ v_L V i ∧ v_L V i ≤ 9) ∧ (∀ m, 0 ≤ m → m < v_M V → v_mok V m) ∧ (∀ m, 0 ≤ m → m + 1 < v_M V → v_K V 2 m ≤ v_K V 1 (m + 1)) ∧ v_sok (v_S V)
/-- the class' recording j holds V -/
def v_C (σ : zS) (j : Nat) (V : zV) : Prop := σ (8 * j) 1 = v_F V ∧ σ (8 * j) 7 = v_M V ∧ (∀ i, 0 ≤ i → i < v_F V → σ (8 * j + 1) i = v_L V i) ∧ (∀ m, 0 ≤ m → m < v_M V → σ (8 * j + 2) m = v_K V 0 m ∧ σ (8 * j + 3) m = v_K V 1 m ∧ σ (8 * j + 4) m = v_K V 2 m ∧ σ (8 * j + 5) m = v_K V 3 m ∧ σ (8 * j + 6) m = v_K V 4 m) ∧ (∀ i, 0 ≤ i → i < 7 → σ (8 * j + 7) i = v_S V i)
theorem v_C_of {σ τ : zS} {j : Nat} {V : zV} (h : v_C σ j V) (he : ∀ a, 8 * j ≤ a → a ≤ 8 * j + 7 → τ a = σ a) : v_C τ j V := by
  unfold v_C at h ⊢
  rw [he (8 * j) (by omega) (by omega), he (8 * j + 1) (by omega) (by omega), he (8 * j + 2) (by omega) (by omega), he (8 * j + 3) (by omega) (by omega), he (8 * j + 4) (by omega) (by omega), he (8 * j + 5) (by omega) (by omega), he (8 * j + 6) (by omega) (by omega), he (8 * j + 7) (by omega) (by omega)]
  exact h
-- levels, quiet seams
def q_lv (V : zV) (i : Int) : Int := if 0 ≤ i ∧ i < v_F V then v_L V i else 0
theorem q_lv_ok {V : zV} (h : v_ok V) (i : Int) : 0 ≤ q_lv V i ∧ q_lv V i ≤ 9 := by
  unfold q_lv
  split
  · rename_i h0; exact h.2.2.1 i h0.1 h0.2
  · omega
abbrev q_qt (V : zV) (s : Int) : Prop := q_lv V (s - 1) ≤ v_S V 1 ∧ q_lv V s ≤ v_S V 1
/-- the quiet seam nearest to t from lo to hi, in n turns from the distance d on; -1 if there is none -/
def q_seam (V : zV) (t lo hi : Int) : Nat → Int → Int
  | 0, _ => -1
  | n + 1, d => if (lo ≤ t - d ∧ t - d ≤ hi) ∧ q_qt V (t - d) then t - d else if (lo ≤ t + d ∧ t + d ≤ hi) ∧ q_qt V (t + d) then t + d else q_seam V t lo hi n (d + 1)
def q_sm (V : zV) (t w lo hi : Int) : Int := q_seam V t lo hi (w + 1).toNat 0
theorem q_seam_ok (V : zV) (t lo hi : Int) : ∀ (n : Nat) (d : Int), q_seam V t lo hi n d = -1 ∨ (lo ≤ q_seam V t lo hi n d ∧ q_seam V t lo hi n d ≤ hi) := by
  intro n
  induction n with
  | zero => intro d; exact Or.inl rfl
  | succ n ih =>
    intro d
    unfold q_seam
    split
    · rename_i h; exact Or.inr h.1
    · split
      · rename_i h; exact Or.inr h.1
      · exact ih (d + 1)
-- the cuts: how many, and of each its begin, end, pause, whether it is rough, its mark
abbrev zL : Type := Int × (Int → Int → Int)
def q_push (s : zL) (b e p r m : Int) : zL := (s.1 + 1, fun f i => if i = s.1 then (if f = 0 then b else if f = 1 then e else if f = 2 then p else if f = 3 then r else m) else s.2 f i)
def q_low (V : zV) (s : zL) (m : Int) : Int := if (if 0 < s.1 then s.2 1 (s.1 - 1) else 0) < (if 0 < m then v_K V 2 (m - 1) else 0) then (if 0 < m then v_K V 2 (m - 1) else 0) else (if 0 < s.1 then s.2 1 (s.1 - 1) else 0)
def q_high (V : zV) (m : Int) : Int := if m + 1 < v_M V then v_K V 1 (m + 1) else v_F V
def q_b0 (V : zV) (w : Int) (s : zL) (m : Int) : Int := q_sm V (v_K V 1 m) w (q_low V s m) (v_K V 2 m - 1)
def q_b (V : zV) (w : Int) (s : zL) (m : Int) : Int := if q_b0 V w s m = -1 then v_K V 1 m else q_b0 V w s m
def q_e0 (V : zV) (w : Int) (s : zL) (m : Int) : Int := q_sm V (v_K V 2 m) w (q_b V w s m + 1) (q_high V m)
def q_e (V : zV) (w : Int) (s : zL) (m : Int) : Int := if q_e0 V w s m = -1 then v_K V 2 m else q_e0 V w s m
def q_p (V : zV) (w : Int) (s : zL) (m : Int) : Int := if ((q_e V w s m - q_b V w s m) * v_S V 4).tdiv 100 < v_S V 3 then ((q_e V w s m - q_b V w s m) * v_S V 4).tdiv 100 else v_S V 3
def q_fill (V : zV) (w : Int) (s : zL) (m : Int) : zL := q_push s (q_b V w s m) (q_e V w s m) (q_p V w s m) (if q_b0 V w s m = -1 ∨ q_e0 V w s m = -1 then 1 else 0) m
def q_breath (V : zV) (s : zL) (m : Int) : zL := if v_K V 2 m - v_K V 1 m < v_S V 6 then q_push s (v_K V 1 m) (v_K V 2 m) 0 0 m else if v_S V 5 < v_K V 2 m - v_K V 1 m then q_push s (v_K V 1 m + (v_S V 5 + 1).tdiv 2) (v_K V 2 m - (v_S V 5).tdiv 2) 0 0 m else s
def q_step (V : zV) (d w : Int) (s : zL) (m : Int) : zL := if v_K V 4 m = 0 ∧ v_K V 0 m = 0 ∧ v_K V 3 m ≤ d then q_fill V w s m else if v_K V 4 m = 0 ∧ v_K V 0 m = 1 then q_breath V s m else s
def q_cuts (V : zV) (d w : Int) : Nat → zL
  | 0 => (0, fun _ _ => 0)
  | m + 1 => q_step V d w (q_cuts V d w m) m
/-- the cuts of the marks before k -/
def q_cok (V : zV) (s : zL) (k : Int) : Prop := (0 ≤ s.1 ∧ s.1 ≤ k) ∧ (∀ i, 0 ≤ i → i < s.1 → (0 ≤ s.2 0 i ∧ s.2 0 i < s.2 1 i ∧ s.2 1 i ≤ v_F V) ∧ (0 ≤ s.2 2 i ∧ s.2 2 i ≤ s.2 1 i - s.2 0 i ∧ s.2 2 i ≤ 50) ∧ (0 ≤ s.2 3 i ∧ s.2 3 i ≤ 1) ∧ (0 ≤ s.2 4 i ∧ s.2 4 i < k)) ∧ (∀ i, 0 ≤ i → i + 1 < s.1 → s.2 1 i ≤ s.2 0 (i + 1) ∧ s.2 4 i < s.2 4 (i + 1)) ∧ (0 < s.1 → ∀ m, k ≤ m → m < v_M V → s.2 1 (s.1 - 1) ≤ v_K V 1 m)
theorem v_mono {V : zV} (h : v_ok V) : ∀ (n : Nat) (m : Int), 0 ≤ m → m + n < v_M V → v_K V 1 m ≤ v_K V 1 (m + n) := by
  intro n
  induction n with
  | zero => intro m _ _; simp
  | succ n ih =>
    intro m h0 h1
    have h2 := ih m h0 (by omega)
    have h3 := h.2.2.2.2.1 (m + n) (by omega) (by omega)
    have h4 := (h.2.2.2.1 (m + n) (by omega) (by omega)).2.1
    have e : m + ((n + 1 : Nat) : Int) = m + n + 1 := by omega
    rw [e]
    omega
theorem v_mono2 {V : zV} (h : v_ok V) {a b : Int} (h0 : 0 ≤ a) (h1 : a < b) (h2 : b < v_M V) : v_K V 2 a ≤ v_K V 1 b := by
  have h3 := h.2.2.2.2.1 a h0 (by omega)
  have h4 := v_mono h (b - (a + 1)).toNat (a + 1) (by omega) (by omega)
  have e : a + 1 + ((b - (a + 1)).toNat : Int) = b := by omega
  rw [e] at h4
  omega
theorem q_cok_push {V : zV} {s : zL} {k b e p r : Int} (hs : q_cok V s k) (hb : 0 ≤ b ∧ b < e ∧ e ≤ v_F V) (hp : 0 ≤ p ∧ p ≤ e - b ∧ p ≤ 50) (hr : 0 ≤ r ∧ r ≤ 1) (hl : 0 < s.1 → s.2 1 (s.1 - 1) ≤ b) (hh : ∀ m, k + 1 ≤ m → m < v_M V → e ≤ v_K V 1 m) : q_cok V (q_push s b e p r k) (k + 1) := by
  obtain ⟨h1, h2, h3, h4⟩ := hs
  refine ⟨?_, ?_, ?_, ?_⟩
  · show 0 ≤ s.1 + 1 ∧ s.1 + 1 ≤ k + 1
    omega
  · intro i i0 i1
    have i1 : i < s.1 + 1 := i1
    by_cases hi : i = s.1
    · simp only [q_push, hi]
      simp only [if_true, if_neg (show ¬ ((1:Int) = 0) by decide), if_neg (show ¬ ((2:Int) = 0) by decide), if_neg (show ¬ ((2:Int) = 1) by decide), if_neg (show ¬ ((3:Int) = 0) by decide), if_neg (show ¬ ((3:Int) = 1) by decide), if_neg (show ¬ ((3:Int) = 2) by decide), if_neg (show ¬ ((4:Int) = 0) by decide), if_neg (show ¬ ((4:Int) = 1) by decide), if_neg (show ¬ ((4:Int) = 2) by decide), if_neg (show ¬ ((4:Int) = 3) by decide)]
      omega
    · have h5 := h2 i i0 (by omega)
      simp only [q_push, if_neg hi]
      omega
  · intro i i0 i1
    have i1 : i + 1 < s.1 + 1 := i1
    by_cases hi : i + 1 = s.1
    · have e1 : i = s.1 - 1 := by omega
      have h5 := h2 i i0 (by omega)
      have h6 := hl (by omega)
      rw [← e1] at h6
      simp only [q_push, if_neg (show ¬ i = s.1 by omega), if_pos hi]
      simp only [if_true, if_neg (show ¬ ((4:Int) = 0) by decide), if_neg (show ¬ ((4:Int) = 1) by decide), if_neg (show ¬ ((4:Int) = 2) by decide), if_neg (show ¬ ((4:Int) = 3) by decide)]
      omega
    · have h5 := h3 i i0 (by omega)
      simp only [q_push, if_neg (show ¬ i = s.1 by omega), if_neg hi]
      exact h5
  · intro _ m m0 m1
    have e1 : (q_push s b e p r k).2 1 ((q_push s b e p r k).1 - 1) = e := by
      show (if s.1 + 1 - 1 = s.1 then _ else _) = _
      rw [if_pos (by omega)]
      rfl
    rw [e1]
    exact hh m m0 m1
theorem q_cok_skip {V : zV} {s : zL} {k : Int} (hs : q_cok V s k) : q_cok V s (k + 1) := by
  obtain ⟨h1, h2, h3, h4⟩ := hs
  refine ⟨by omega, fun i i0 i1 => ?_, h3, fun h m m0 m1 => h4 h m (by omega) m1⟩
  have := h2 i i0 i1
  omega
theorem q_tdiv {a b : Int} (h : 0 ≤ a) : a.tdiv b = a / b := Int.tdiv_eq_ediv_of_nonneg h
theorem q_fill_facts {V : zV} (h : v_ok V) {w : Int} {s : zL} {m : Int} (m0 : 0 ≤ m) (m1 : m < v_M V) (hs : q_cok V s m) : (0 ≤ q_low V s m ∧ q_low V s m ≤ v_K V 1 m) ∧ (v_K V 2 m ≤ q_high V m ∧ q_high V m ≤ v_F V ∧ ∀ m', m + 1 ≤ m' → m' < v_M V → q_high V m ≤ v_K V 1 m') ∧ (q_b0 V w s m = -1 ∨ (q_low V s m ≤ q_b0 V w s m ∧ q_b0 V w s m < v_K V 2 m)) ∧ (q_low V s m ≤ q_b V w s m ∧ q_b V w s m < v_K V 2 m) ∧ (q_e0 V w s m = -1 ∨ (q_b V w s m < q_e0 V w s m ∧ q_e0 V w s m ≤ q_high V m)) ∧ (q_b V w s m < q_e V w s m ∧ q_e V w s m ≤ q_high V m) ∧ (0 ≤ q_p V w s m ∧ q_p V w s m ≤ q_e V w s m - q_b V w s m ∧ q_p V w s m ≤ 50) ∧ (0 < s.1 → s.2 1 (s.1 - 1) ≤ q_low V s m) ∧ (0 < m → v_K V 2 (m - 1) ≤ q_low V s m) := by
  have hm := h.2.2.2.1 m m0 m1
  have hA : (0 ≤ q_low V s m ∧ q_low V s m ≤ v_K V 1 m) ∧ (0 < s.1 → s.2 1 (s.1 - 1) ≤ q_low V s m) ∧ (0 < m → v_K V 2 (m - 1) ≤ q_low V s m) := by
    have h5 : 0 < s.1 → 0 ≤ s.2 1 (s.1 - 1) ∧ s.2 1 (s.1 - 1) ≤ v_K V 1 m := fun h6 => ⟨by have := (hs.2.1 (s.1 - 1) (by omega) (by omega)).1; omega, hs.2.2.2 h6 m (Int.le_refl _) m1⟩
    have h7 : 0 < m → 0 ≤ v_K V 2 (m - 1) ∧ v_K V 2 (m - 1) ≤ v_K V 1 m := fun h6 => ⟨by have := (h.2.2.2.1 (m - 1) (by omega) (by omega)).2.1; omega, v_mono2 h (by omega) (by omega) m1⟩
    have h8 := hm.2.1
    unfold q_low
    by_cases a : 0 < s.1 <;> by_cases b : 0 < m <;> simp only [a, b, if_true, if_false, true_imp_iff, false_imp_iff, and_true, true_and] <;> (try have h5 := h5 a) <;> (try have h7 := h7 b) <;> split <;> omega
  have hB : v_K V 2 m ≤ q_high V m ∧ q_high V m ≤ v_F V ∧ ∀ m', m + 1 ≤ m' → m' < v_M V → q_high V m ≤ v_K V 1 m' := by
    unfold q_high
    by_cases a : m + 1 < v_M V
    · rw [if_pos a]
      have h5 := h.2.2.2.1 (m + 1) (by omega) a
      have h6 := h.2.2.2.2.1 m m0 a
      refine ⟨h6, by have := h5.2.1; omega, fun m' h7 h8 => ?_⟩
      have h9 := v_mono h (m' - (m + 1)).toNat (m + 1) (by omega) (by omega)
      have e : m + 1 + ((m' - (m + 1)).toNat : Int) = m' := by omega
      rw [e] at h9
      exact h9
    · rw [if_neg a]
      exact ⟨hm.2.1.2.2, Int.le_refl _, fun m' h7 h8 => by omega⟩
  have hC : q_b0 V w s m = -1 ∨ (q_low V s m ≤ q_b0 V w s m ∧ q_b0 V w s m < v_K V 2 m) := by
    have := q_seam_ok V (v_K V 1 m) (q_low V s m) (v_K V 2 m - 1) (w + 1).toNat 0
    unfold q_b0 q_sm
    omega
  have hb1 := hm.2.1
  have hDd : q_low V s m ≤ q_b V w s m ∧ q_b V w s m < v_K V 2 m := by
    unfold q_b
    split <;> omega
  have hE : q_e0 V w s m = -1 ∨ (q_b V w s m < q_e0 V w s m ∧ q_e0 V w s m ≤ q_high V m) := by
    have := q_seam_ok V (v_K V 2 m) (q_b V w s m + 1) (q_high V m) (w + 1).toNat 0
    unfold q_e0 q_sm
    omega
  have hF : q_b V w s m < q_e V w s m ∧ q_e V w s m ≤ q_high V m := by
    unfold q_e
    split <;> omega
  refine ⟨hA.1, hB, hC, hDd, hE, hF, ?_, hA.2.1, hA.2.2⟩
  have hs4 := h.2.2.2.2.2.2.2.2.2.1
  have hs3 := h.2.2.2.2.2.2.2.2.1
  have g1 : 0 ≤ (q_e V w s m - q_b V w s m) * v_S V 4 := Int.mul_nonneg (by omega) hs4.1
  have g2 : (q_e V w s m - q_b V w s m) * v_S V 4 ≤ (q_e V w s m - q_b V w s m) * 100 := Int.mul_le_mul_of_nonneg_left hs4.2 (by omega)
  unfold q_p
  rw [q_tdiv g1]
  generalize (q_e V w s m - q_b V w s m) * v_S V 4 = z at g1 g2 ⊢
  split <;> omega
theorem q_step_ok {V : zV} (h : v_ok V) {d w : Int} {s : zL} {m : Int} (m0 : 0 ≤ m) (m1 : m < v_M V) (hs : q_cok V s m) : q_cok V (q_step V d w s m) (m + 1) := by
  have hm := h.2.2.2.1 m m0 m1
  unfold q_step
  split
  · obtain ⟨f1, f2, f3, f4, f5, f6, f7, f8, f9⟩ := q_fill_facts h (w := w) m0 m1 hs
    unfold q_fill
    refine q_cok_push hs ⟨by omega, by omega, by omega⟩ f7 (by split <;> omega) (fun h9 => by have := f8 h9; omega) (fun m' h7 h8 => by have := f2.2.2 m' h7 h8; omega)
  · split
    · have hl : 0 < s.1 → s.2 1 (s.1 - 1) ≤ v_K V 1 m := fun h6 => hs.2.2.2 h6 m (Int.le_refl _) m1
      have hh : ∀ m', m + 1 ≤ m' → m' < v_M V → v_K V 2 m ≤ v_K V 1 m' := fun m' h7 h8 => v_mono2 h m0 (by omega) h8
      have hb := hm.2.1
      have h5 := h.2.2.2.2.2.2.2.2.2.2.1
      unfold q_breath
      split
      · exact q_cok_push hs ⟨by omega, by omega, by omega⟩ ⟨by omega, by omega, by omega⟩ ⟨by omega, by omega⟩ (fun h9 => by have := hl h9; omega) hh
      · split
        · rw [q_tdiv (by omega), q_tdiv (by omega)]
          refine q_cok_push hs ⟨by omega, by omega, by omega⟩ ⟨by omega, by omega, by omega⟩ ⟨by omega, by omega⟩ (fun h9 => by have := hl h9; omega) (fun m' h7 h8 => by have := hh m' h7 h8; omega)
        · exact q_cok_skip hs
    · exact q_cok_skip hs
theorem q_cuts_ok {V : zV} (h : v_ok V) {d w : Int} : ∀ k : Nat, (k : Int) ≤ v_M V → q_cok V (q_cuts V d w k) k := by
  intro k
  induction k with
  | zero => intro _; exact ⟨⟨Int.le_refl _, Int.le_refl _⟩, fun i h0 h1 => by have h1 : i < 0 := h1; omega, fun i h0 h1 => by have h1 : i + 1 < 0 := h1; omega, fun h => by have h : (0 : Int) < 0 := h; omega⟩
  | succ k ih =>
    intro hk
    have := q_step_ok h (d := d) (w := w) (s := q_cuts V d w k) (m := k) (by omega) (by omega) (ih (by omega))
    exact this
