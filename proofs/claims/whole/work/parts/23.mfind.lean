/-! THE REFERENCE'S CUTS -/
/-- what P does not name is as it was -/
def z_ex (P : Nat → Int → Prop) (σ τ : zS) : Prop := ∀ a b, ¬ P a b → τ a b = σ a b
theorem z_ex_rf {P : Nat → Int → Prop} {σ : zS} : z_ex P σ σ := fun _ _ _ => rfl
theorem z_ex_tr {P : Nat → Int → Prop} {σ τ υ : zS} (h1 : z_ex P σ τ) (h2 : z_ex P τ υ) : z_ex P σ υ := fun a b h => (h2 a b h).trans (h1 a b h)
theorem z_ex_up {P : Nat → Int → Prop} {σ τ : zS} {k : Nat} {i v : Int} (h : z_ex P σ τ) (h1 : P k i) : z_ex P σ (z_up τ k i v) := by
  intro a b hn
  rw [← h a b hn]
  by_cases ha : a = k
  · subst ha
    exact z_ri (fun e => hn (e ▸ h1))
  · exact z_rn ha
theorem z_ex_le {P Q : Nat → Int → Prop} {σ τ : zS} (h : z_ex P σ τ) (hPQ : ∀ a b, P a b → Q a b) : z_ex Q σ τ := fun a b hn => h a b (fun hp => hn (hPQ a b hp))
/-- the reference's row holds V, but for the greatest doubt and the window, which are d and w -/
def v_Q (f : Int → Int) (V : zV) (d w : Int) : Prop := f 7 = v_F V ∧ f 8 = v_M V ∧ (∀ i, 0 ≤ i → i < v_F V → f (10 + i) = v_L V i) ∧ (∀ m, 0 ≤ m → m < v_M V → f (210 + 5 * m) = v_K V 0 m ∧ f (210 + 5 * m + 1) = v_K V 1 m ∧ f (210 + 5 * m + 2) = v_K V 2 m ∧ f (210 + 5 * m + 3) = v_K V 3 m ∧ f (210 + 5 * m + 4) = v_K V 4 m) ∧ (f 0 = d ∧ f 1 = v_S V 1 ∧ f 2 = w ∧ f 3 = v_S V 3 ∧ f 4 = v_S V 4 ∧ f 5 = v_S V 5 ∧ f 6 = v_S V 6)
theorem v_Q_of {f : Int → Int} {V : zV} (h : v_R f V) : v_Q f V (v_S V 0) (v_S V 2) := ⟨h.1, h.2.1, h.2.2.1, h.2.2.2.1, h.2.2.2.2 0 (by omega) (by omega), h.2.2.2.2 1 (by omega) (by omega), h.2.2.2.2 2 (by omega) (by omega), h.2.2.2.2 3 (by omega) (by omega), h.2.2.2.2 4 (by omega) (by omega), h.2.2.2.2 5 (by omega) (by omega), h.2.2.2.2 6 (by omega) (by omega)⟩
theorem v_Q_eq {f g : Int → Int} {V : zV} {d w : Int} (h : v_Q f V d w) (e : ∀ i, g i = f i) : v_Q g V d w := by
  have : g = f := funext e
  rw [this]; exact h
theorem m_in {σ : zS} {x lo hi : Int} (hx : zr x) (hlo : zr lo) (hhi : zr hi) : f_X6_in σ x lo hi = some (if lo ≤ x ∧ x ≤ hi then 1 else 0, σ) := by
  unfold zr at hx hlo hhi
  unfold f_X6_in f_X6_in_b14 f_X6_in_b15
  rw [if_pos (by omega)]
  by_cases a : x < lo
  · rw [if_pos a, if_neg (show ¬ (lo ≤ x ∧ x ≤ hi) by omega)]
    rw [if_pos (by omega)]
  · rw [if_neg a, if_pos (by omega)]
    by_cases b : hi < x
    · rw [if_pos b, if_neg (show ¬ (lo ≤ x ∧ x ≤ hi) by omega)]
      rw [if_pos (by omega)]
    · rw [if_neg b, if_pos (by omega), if_pos (show lo ≤ x ∧ x ≤ hi by omega)]
theorem m_levelAt {σ : zS} {V : zV} {d w x : Int} (hR : v_Q (σ 1) V d w) (hV : v_ok V) (hx : zr x) : f_X6_levelAt σ x = some (q_lv V x, σ) := by
  have h7 := hR.1
  have hF := hV.1
  unfold f_X6_levelAt f_X6_levelAt_b30 q_lv
  rw [h7, if_pos (by omega), m_in hx (by unfold zr; omega) (by unfold zr; omega), z_bd]
  by_cases a : 0 ≤ x ∧ x < v_F V
  · rw [if_pos (show 0 ≤ x ∧ x ≤ v_F V - 1 by omega), if_pos (by unfold zr; omega), if_neg (by omega), if_pos (by omega), if_pos a, hR.2.2.1 x a.1 a.2]
  · rw [if_neg (show ¬ (0 ≤ x ∧ x ≤ v_F V - 1) by omega), if_pos (by unfold zr; omega), if_pos (by omega), if_neg a]
theorem m_isQuiet {σ : zS} {V : zV} {d w x : Int} (hR : v_Q (σ 1) V d w) (hV : v_ok V) (hx : -1000 ≤ x ∧ x ≤ 1000) : f_X6_isQuiet σ x = some (if q_qt V x then 1 else 0, σ) := by
  have h1 := m_levelAt hR hV (x := x) ⟨by omega, by omega⟩
  have h2 := m_levelAt hR hV (x := x - 1) ⟨by omega, by omega⟩
  have h3 := hR.2.2.2.2.2.1
  have h4 := q_lv_ok hV x
  have h5 := q_lv_ok hV (x - 1)
  have h6 := hV.2.2.2.2.2.2.1
  unfold f_X6_isQuiet f_X6_isQuiet_b34 f_X6_isQuiet_b35 q_qt
  rw [h2, z_bd, h3, if_pos (by omega), if_pos (by unfold zr; omega)]
  by_cases a : v_S V 1 < q_lv V (x - 1)
  · rw [if_pos a, if_neg (show ¬ (q_lv V (x - 1) ≤ v_S V 1 ∧ q_lv V x ≤ v_S V 1) by omega)]
    rw [if_pos (by omega)]
  · rw [if_neg a, h1, z_bd, h3, if_pos (by omega), if_pos (by unfold zr; omega)]
    by_cases b : v_S V 1 < q_lv V x
    · rw [if_pos b, if_neg (show ¬ (q_lv V (x - 1) ≤ v_S V 1 ∧ q_lv V x ≤ v_S V 1) by omega)]
      rw [if_pos (by omega)]
    · rw [if_neg b, if_pos (by omega), if_pos (show q_lv V (x - 1) ≤ v_S V 1 ∧ q_lv V x ≤ v_S V 1 by omega)]
theorem m_of {σ : zS} {V : zV} {d w m : Int} (hR : v_Q (σ 1) V d w) (hV : v_ok V) (m0 : 0 ≤ m) (m1 : m < v_M V) : f_X6_of σ m 0 = some (v_K V 0 m, σ) ∧ f_X6_of σ m 1 = some (v_K V 1 m, σ) ∧ f_X6_of σ m 2 = some (v_K V 2 m, σ) ∧ f_X6_of σ m 3 = some (v_K V 3 m, σ) ∧ f_X6_of σ m 4 = some (v_K V 4 m, σ) := by
  have hM := hV.2.1
  obtain ⟨e0, e1, e2, e3, e4⟩ := hR.2.2.2.1 m m0 m1
  unfold f_X6_of
  rw [if_pos (by omega), if_pos (by omega), if_pos (by omega), if_pos (by omega), if_pos (by omega), e1, e2, e3, e4, show (210 + 5 * m + 0 : Int) = 210 + 5 * m by omega, e0]
  exact ⟨rfl, rfl, rfl, rfl, rfl⟩
theorem m_seam_l {σ : zS} {V : zV} {d w t lo hi : Int} (hR : v_Q (σ 1) V d w) (hV : v_ok V) (ht : 0 ≤ t ∧ t ≤ 200) (hw : 0 ≤ w ∧ w ≤ 20) (hlo : 0 ≤ lo ∧ lo ≤ 300) (hhi : -10 ≤ hi ∧ hi ≤ 300) : ∀ (n f : Nat) (q : Int), n < f → 0 ≤ q → q + n = w + 1 → f_X6_seam_l3 f σ t lo hi q = some (if q_seam V t lo hi n q = -1 then -9 else q_seam V t lo hi n q, σ) := by
  intro n
  have h2 := hR.2.2.2.2.2.2.1
  induction n with
  | zero =>
    intro f q hf q0 hq
    obtain ⟨f, rfl⟩ : ∃ k, f = k + 1 := ⟨f - 1, by omega⟩
    unfold f_X6_seam_l3 f_X6_seam_b3 q_seam
    rw [h2, if_pos (by omega), if_pos (by unfold zr; omega), if_pos (by omega), if_pos rfl]
  | succ n ih =>
    intro f q hf q0 hq
    obtain ⟨f, rfl⟩ : ∃ k, f = k + 1 := ⟨f - 1, by omega⟩
    have ih := ih f (q + 1) (by omega) (by omega) (by omega)
    have h3 := m_isQuiet hR hV (x := t - q) (by omega)
    have h4 := m_isQuiet hR hV (x := t + q) (by omega)
    have i1 := m_in (σ := σ) (x := t - q) (lo := lo) (hi := hi) (by unfold zr; omega) (by unfold zr; omega) (by unfold zr; omega)
    have i2 := m_in (σ := σ) (x := t + q) (lo := lo) (hi := hi) (by unfold zr; omega) (by unfold zr; omega) (by unfold zr; omega)
    obtain ⟨z, hz⟩ : ∃ z, z = q_seam V t lo hi n (q + 1) := ⟨_, rfl⟩
    have hB : f_X6_seam_b42 (f_X6_seam_l3 f) σ t lo hi q = some (if (if (lo ≤ t + q ∧ t + q ≤ hi) ∧ q_qt V (t + q) then t + q else z) = -1 then -9 else (if (lo ≤ t + q ∧ t + q ≤ hi) ∧ q_qt V (t + q) then t + q else z), σ) := by
      unfold f_X6_seam_b42 f_X6_seam_b70
      rw [i2, z_bd, ih, ← hz]
      by_cases a : lo ≤ t + q ∧ t + q ≤ hi
      · rw [if_pos a, if_pos (by unfold zr; omega), if_neg (by omega), h4, z_bd]
        by_cases c : q_qt V (t + q)
        · rw [if_pos c, if_pos (by unfold zr; omega), if_neg (by omega), if_pos (show (lo ≤ t + q ∧ t + q ≤ hi) ∧ q_qt V (t + q) from ⟨a, c⟩), if_neg (by omega)]
        · rw [if_neg c, if_pos (by unfold zr; omega), if_pos rfl, if_neg (show ¬ ((lo ≤ t + q ∧ t + q ≤ hi) ∧ q_qt V (t + q)) from fun h => c h.2), ih, ← hz]
      · rw [if_neg a, if_pos (by unfold zr; omega), if_pos rfl, if_neg (show ¬ ((lo ≤ t + q ∧ t + q ≤ hi) ∧ q_qt V (t + q)) from fun h => a h.1)]
    unfold f_X6_seam_l3 f_X6_seam_b3 q_seam
    rw [h2, if_pos (by omega), if_pos (by unfold zr; omega), if_neg (by omega), i1, z_bd, ← hz]
    by_cases a : lo ≤ t - q ∧ t - q ≤ hi
    · rw [if_pos a, if_pos (by unfold zr; omega), if_neg (by omega), h3, z_bd]
      by_cases c : q_qt V (t - q)
      · rw [if_pos c, if_pos (by unfold zr; omega), if_neg (by omega), if_pos (show (lo ≤ t - q ∧ t - q ≤ hi) ∧ q_qt V (t - q) from ⟨a, c⟩), if_neg (by omega)]
      · rw [if_neg c, if_pos (by unfold zr; omega), if_pos rfl, if_neg (show ¬ ((lo ≤ t - q ∧ t - q ≤ hi) ∧ q_qt V (t - q)) from fun h => c h.2)]
        exact hB
    · rw [if_neg a, if_pos (by unfold zr; omega), if_pos rfl, if_neg (show ¬ ((lo ≤ t - q ∧ t - q ≤ hi) ∧ q_qt V (t - q)) from fun h => a h.1)]
      exact hB
theorem m_seam {σ : zS} {V : zV} {d w t lo hi : Int} (hR : v_Q (σ 1) V d w) (hV : v_ok V) (ht : 0 ≤ t ∧ t ≤ 200) (hw : 0 ≤ w ∧ w ≤ 20) (hlo : 0 ≤ lo ∧ lo ≤ 300) (hhi : -10 ≤ hi ∧ hi ≤ 300) : f_X6_seam σ t lo hi = some (if q_sm V t w lo hi = -1 then -9 else q_sm V t w lo hi, σ) := by
  unfold f_X6_seam q_sm
  exact m_seam_l hR hV ht hw hlo hhi (w + 1).toNat z_fuel 0 (by unfold z_fuel; omega) (by omega) (by omega)
/-- the reference's list of cuts holds s -/
def r_M (σ : zS) (s : zL) : Prop := σ 0 12 = s.1 ∧ ∀ i, 0 ≤ i → i < s.1 → σ 6 (5 * i) = s.2 0 i ∧ σ 6 (5 * i + 1) = s.2 1 i ∧ σ 6 (5 * i + 2) = s.2 2 i ∧ σ 6 (5 * i + 3) = s.2 3 i ∧ σ 6 (5 * i + 4) = s.2 4 i
abbrev p_F (a : Nat) (b : Int) : Prop := a = 6 ∨ (a = 0 ∧ b = 12)
theorem m_lays {σ : zS} {s : zL} {b e p r m : Int} (hs : r_M σ s) (hn : 0 ≤ s.1 ∧ s.1 < 20) : ∃ τ, f_X6_lays σ b e p r m = some ((), τ) ∧ r_M τ (q_push s b e p r m) ∧ z_ex p_F σ τ := by
  have h1 := hs.1
  refine ⟨z_up (z_up (z_up (z_up (z_up (z_up σ 6 (5 * s.1) b) 6 (5 * s.1 + 1) e) 6 (5 * s.1 + 2) p) 6 (5 * s.1 + 3) r) 6 (5 * s.1 + 4) m) 0 12 (s.1 + 1), ?_, ?_, ?_⟩
  · unfold f_X6_lays
    rw [h1, if_pos (by omega), z_put, if_pos (by omega), z_put, if_pos (by omega), z_put, if_pos (by omega), z_put, if_pos (by omega), z_put, z_put]
    rw [z_rn (by omega), z_rn (by omega), z_rn (by omega), z_rn (by omega), z_rn (by omega), h1]
  · refine ⟨by rw [z_re]; rfl, fun i i0 i1 => ?_⟩
    have i1 : i < s.1 + 1 := i1
    by_cases hi : i = s.1
    · subst hi
      simp only [q_push, if_true]
      refine ⟨?_, ?_, ?_, ?_, ?_⟩
      · rw [z_rn (by omega), z_ri (by omega), z_ri (by omega), z_ri (by omega), z_ri (by omega), z_re]
      · rw [z_rn (by omega), z_ri (by omega), z_ri (by omega), z_ri (by omega), z_re]; rfl
      · rw [z_rn (by omega), z_ri (by omega), z_ri (by omega), z_re]; rfl
      · rw [z_rn (by omega), z_ri (by omega), z_re]; rfl
      · rw [z_rn (by omega), z_re]; rfl
    · obtain ⟨g0, g1, g2, g3, g4⟩ := hs.2 i i0 (by omega)
      simp only [q_push, if_neg hi]
      refine ⟨?_, ?_, ?_, ?_, ?_⟩
      · rw [z_rn (by omega), z_ri (by omega), z_ri (by omega), z_ri (by omega), z_ri (by omega), z_ri (by omega)]; exact g0
      · rw [z_rn (by omega), z_ri (by omega), z_ri (by omega), z_ri (by omega), z_ri (by omega), z_ri (by omega)]; exact g1
      · rw [z_rn (by omega), z_ri (by omega), z_ri (by omega), z_ri (by omega), z_ri (by omega), z_ri (by omega)]; exact g2
      · rw [z_rn (by omega), z_ri (by omega), z_ri (by omega), z_ri (by omega), z_ri (by omega), z_ri (by omega)]; exact g3
      · rw [z_rn (by omega), z_ri (by omega), z_ri (by omega), z_ri (by omega), z_ri (by omega), z_ri (by omega)]; exact g4
  · exact z_ex_up (z_ex_up (z_ex_up (z_ex_up (z_ex_up (z_ex_up z_ex_rf (Or.inl rfl)) (Or.inl rfl)) (Or.inl rfl)) (Or.inl rfl)) (Or.inl rfl)) (Or.inr ⟨rfl, rfl⟩)
theorem m_fills {σ : zS} {V : zV} {s : zL} {d w m : Int} (hR : v_Q (σ 1) V d w) (hV : v_ok V) (hs : r_M σ s) (hk : q_cok V s m) (m0 : 0 ≤ m) (m1 : m < v_M V) (hw : 0 ≤ w ∧ w ≤ 20) : ∃ τ, f_X6_fills σ m = some ((), τ) ∧ r_M τ (q_fill V w s m) ∧ z_ex p_F σ τ := by
  obtain ⟨f1, f2, f3, f4, f5, f6, f7, f8, f9⟩ := q_fill_facts hV (w := w) m0 m1 hk
  have hM := hV.2.1
  have hF := hV.1
  have hm := (hV.2.2.2.1 m m0 m1).2.1
  obtain ⟨e0, e1, e2, e3, e4⟩ := m_of hR hV m0 m1
  obtain ⟨s0, s1, s2, s3, s4, s5, s6⟩ := hR.2.2.2.2
  have h7 := hR.1
  have h8 := hR.2.1
  have hn := hk.1
  have h12 := hs.1
  have g3 := m_seam hR hV (t := v_K V 1 m) (lo := q_low V s m) (hi := v_K V 2 m - 1) (by omega) hw (by omega) (by omega)
  have g5 := m_seam hR hV (t := v_K V 2 m) (lo := q_b V w s m + 1) (hi := q_high V m) (by omega) hw (by omega) (by omega)
  have b0 : q_sm V (v_K V 1 m) w (q_low V s m) (v_K V 2 m - 1) = q_b0 V w s m := rfl
  have b1 : q_sm V (v_K V 2 m) w (q_b V w s m + 1) (q_high V m) = q_e0 V w s m := rfl
  rw [b0] at g3
  rw [b1] at g5
  have hs4 := hV.2.2.2.2.2.2.2.2.2.1
  have hs3 := hV.2.2.2.2.2.2.2.2.1
  have k1 : 0 ≤ (q_e V w s m - q_b V w s m) * v_S V 4 := Int.mul_nonneg (by omega) hs4.1
  have k2 : (q_e V w s m - q_b V w s m) * v_S V 4 ≤ (q_e V w s m - q_b V w s m) * 100 := Int.mul_le_mul_of_nonneg_left hs4.2 (by omega)
  have k3 : 0 ≤ ((q_e V w s m - q_b V w s m) * v_S V 4).tdiv 100 ∧ ((q_e V w s m - q_b V w s m) * v_S V 4).tdiv 100 ≤ 200 := by
    rw [q_tdiv k1]; omega
  obtain ⟨r0, hr0⟩ : ∃ r0 : Int, r0 = (if q_b0 V w s m = -1 ∨ q_e0 V w s m = -1 then 1 else 0) := ⟨_, rfl⟩
  obtain ⟨τ, t1, t2, t3⟩ := m_lays hs (b := q_b V w s m) (e := q_e V w s m) (p := q_p V w s m) (r := r0) (m := m) (by omega)
  refine ⟨τ, ?_, by rw [hr0] at t2; exact t2, t3⟩
  have hp : q_p V w s m = if ((q_e V w s m - q_b V w s m) * v_S V 4).tdiv 100 < v_S V 3 then ((q_e V w s m - q_b V w s m) * v_S V 4).tdiv 100 else v_S V 3 := rfl
  have hT : f_X6_fills_b184 σ m (q_b V w s m) r0 (q_e V w s m) = some ((), τ) := by
    unfold f_X6_fills_b184 f_X6_fills_b230
    rw [s4, s3, if_pos (by omega), if_pos (by unfold zr; omega), if_pos (by omega), if_pos (by unfold zr; omega)]
    by_cases a : ((q_e V w s m - q_b V w s m) * v_S V 4).tdiv 100 < v_S V 3
    · rw [if_pos a] at hp
      rw [if_neg (by omega), ← hp, t1]; rfl
    · rw [if_neg a] at hp
      rw [if_pos (by omega), if_pos (by omega), ← hp, t1]; rfl
  have hU : ∀ x6 : Int, (0 ≤ x6 ∧ x6 ≤ 1) → (x6 = 0 ↔ ¬ q_b0 V w s m = -1) → f_X6_fills_b145 σ m (v_K V 2 m) (q_b V w s m) x6 (q_high V m) = some ((), τ) := by
    intro x6 h6 h9
    unfold f_X6_fills_b145 f_X6_fills_b171
    rw [g5, z_bd]
    by_cases b : q_e0 V w s m = -1
    · have e9 : q_e V w s m = v_K V 2 m := by unfold q_e; rw [if_pos b]
      have r1 : r0 = 1 := by rw [hr0, if_pos (Or.inr b)]
      rw [r1, e9] at hT
      rw [if_pos b, if_pos (by unfold zr; omega), if_neg (by omega), if_pos (by unfold zr; omega), if_neg (by omega)]
      exact hT
    · have e9 : q_e V w s m = q_e0 V w s m := by unfold q_e; rw [if_neg b]
      have r1 : r0 = x6 := by
        rw [hr0]
        by_cases a : q_b0 V w s m = -1
        · rw [if_pos (Or.inl a)]; omega
        · rw [if_neg (by omega)]; omega
      rw [r1, e9] at hT
      rw [if_neg b, if_pos (by unfold zr; omega), if_pos (by omega), if_pos (by unfold zr; omega), if_pos (by omega)]
      exact hT
  have hH : ∀ x6 : Int, (0 ≤ x6 ∧ x6 ≤ 1) → (x6 = 0 ↔ ¬ q_b0 V w s m = -1) → f_X6_fills_b112 σ m (v_K V 2 m) x6 (q_b V w s m) = some ((), τ) := by
    intro x6 h6 h9
    have hU := hU x6 h6 h9
    unfold f_X6_fills_b112
    rw [h8, h7, if_pos (by omega), if_pos (by unfold zr; omega)]
    by_cases a : m + 1 < v_M V
    · have hh : q_high V m = v_K V 1 (m + 1) := by unfold q_high; rw [if_pos a]
      rw [hh] at hU
      rw [if_neg (by omega), (m_of hR hV (m := m + 1) (by omega) a).2.1, z_bd]
      exact hU
    · have hh : q_high V m = v_F V := by unfold q_high; rw [if_neg a]
      rw [hh] at hU
      rw [if_pos (by omega), if_pos (by omega)]
      exact hU
  have hJ : f_X6_fills_b75 σ m (v_K V 1 m) (v_K V 2 m) (q_low V s m) = some ((), τ) := by
    unfold f_X6_fills_b75 f_X6_fills_b99
    rw [g3, z_bd]
    by_cases a : q_b0 V w s m = -1
    · have e9 : q_b V w s m = v_K V 1 m := by unfold q_b; rw [if_pos a]
      have hH := hH 1 (by omega) (by omega)
      rw [e9] at hH
      rw [if_pos a, if_pos (by unfold zr; omega), if_neg (by omega), if_pos (by unfold zr; omega), if_neg (by omega)]
      exact hH
    · have e9 : q_b V w s m = q_b0 V w s m := by unfold q_b; rw [if_neg a]
      have hH := hH 0 (by omega) (by omega)
      rw [e9] at hH
      rw [if_neg a, if_pos (by unfold zr; omega), if_pos (by omega), if_pos (by unfold zr; omega), if_pos (by omega)]
      exact hH
  have hlow2 : 0 ≤ (if 0 < m then v_K V 2 (m - 1) else 0) ∧ (if 0 < m then v_K V 2 (m - 1) else 0) ≤ 200 := by
    by_cases h : 0 < m
    · rw [if_pos h]
      have h5 := (hV.2.2.2.1 (m - 1) (by omega) (by omega)).2.1
      omega
    · rw [if_neg h]; omega
  have hI : f_X6_fills_b30 σ m (v_K V 1 m) (v_K V 2 m) (if 0 < m then v_K V 2 (m - 1) else 0) = some ((), τ) := by
    unfold f_X6_fills_b30 f_X6_fills_b73
    have hl : q_low V s m = if (if 0 < s.1 then s.2 1 (s.1 - 1) else 0) < (if 0 < m then v_K V 2 (m - 1) else 0) then (if 0 < m then v_K V 2 (m - 1) else 0) else (if 0 < s.1 then s.2 1 (s.1 - 1) else 0) := rfl
    generalize (if 0 < m then v_K V 2 (m - 1) else 0) = u at hl hlow2 ⊢
    rw [h12, if_pos (by unfold zr; omega)]
    by_cases a : 0 < s.1
    · have hc := (hk.2.1 (s.1 - 1) (by omega) (by omega)).1
      have g1 := (hs.2 (s.1 - 1) (by omega) (by omega)).2.1
      rw [show (5 * (s.1 - 1) + 1 : Int) = 5 * s.1 - 4 by omega] at g1
      rw [if_pos a] at hl
      rw [if_neg (by omega), if_pos (by omega), g1, if_pos (by unfold zr; omega)]
      by_cases b : s.2 1 (s.1 - 1) < u
      · rw [if_pos b] at hl
        rw [if_pos (by omega), ← hl]; exact hJ
      · rw [if_neg b] at hl
        by_cases c : s.2 1 (s.1 - 1) ≤ u
        · have : u = q_low V s m := by omega
          rw [if_pos c, this]; exact hJ
        · rw [if_neg c, if_pos (by omega), ← hl]; exact hJ
    · rw [if_neg a] at hl
      have : u = q_low V s m := by
        rw [hl]; split <;> omega
      rw [if_pos (by omega), this]; exact hJ
  unfold f_X6_fills
  rw [e1, z_bd, e2, z_bd, if_pos (by unfold zr; omega)]
  by_cases a : 0 < m
  · rw [if_pos a] at hI
    rw [if_pos (by omega), (m_of hR hV (m := m - 1) (by omega) (by omega)).2.2.1, z_bd]
    exact hI
  · rw [if_neg a] at hI
    rw [if_neg (by omega)]
    exact hI
