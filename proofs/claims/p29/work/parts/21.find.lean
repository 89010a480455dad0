/-! THE CLASS' CUTS -/
theorem z_rn {σ : zS} {x y : Nat} {b v a : Int} (h : y ≠ x) : z_up σ x b v y a = σ y a := by simp [z_up, h]
theorem z_ri {σ : zS} {x y : Nat} {b v a : Int} (h : a ≠ b) : z_up σ x b v y a = σ y a := by simp [z_up, h]
theorem z_re {σ : zS} {x : Nat} {b v : Int} : z_up σ x b v x b = v := by simp [z_up]
/-- what is outside of the rows from lo to hi is as it was -/
def z_out (lo hi : Nat) (σ τ : zS) : Prop := ∀ a, a < lo ∨ hi < a → τ a = σ a
theorem z_out_rf {lo hi : Nat} {σ : zS} : z_out lo hi σ σ := fun _ _ => rfl
theorem z_out_tr {lo hi : Nat} {σ τ υ : zS} (h1 : z_out lo hi σ τ) (h2 : z_out lo hi τ υ) : z_out lo hi σ υ := fun a h => (h2 a h).trans (h1 a h)
theorem z_out_up {lo hi : Nat} {σ τ : zS} {k : Nat} {i v : Int} (h : z_out lo hi σ τ) (h1 : lo ≤ k) (h2 : k ≤ hi) : z_out lo hi σ (z_up τ k i v) := by
  intro a ha
  rw [← h a ha]
  funext b
  exact z_rn (by omega)
theorem z_out_le {lo hi lo2 hi2 : Nat} {σ τ : zS} (h : z_out lo hi σ τ) (h1 : lo2 ≤ lo) (h2 : hi ≤ hi2) : z_out lo2 hi2 σ τ := fun a ha => h a (by omega)
theorem v_C_out {lo hi : Nat} {σ τ : zS} {j : Nat} {V : zV} (h : v_C σ j V) (ho : z_out lo hi σ τ) (hj : 8 * j + 7 < lo ∨ hi < 8 * j) : v_C τ j V := v_C_of h (fun a h1 h2 => ho a (by omega))
/-- a recording's facts, by the cells 0 to 7 -/
theorem v_C0 {σ : zS} {V : zV} (h : v_C σ 0 V) : σ 0 1 = v_F V ∧ σ 0 7 = v_M V ∧ (∀ i, 0 ≤ i → i < v_F V → σ 1 i = v_L V i) ∧ (∀ m, 0 ≤ m → m < v_M V → σ 2 m = v_K V 0 m ∧ σ 3 m = v_K V 1 m ∧ σ 4 m = v_K V 2 m ∧ σ 5 m = v_K V 3 m ∧ σ 6 m = v_K V 4 m) ∧ (∀ i, 0 ≤ i → i < 7 → σ 7 i = v_S V i) := h
theorem c_levelAt {j : Nat} {σ : zS} {V : zV} {x : Int} (hC : v_C σ j V) (hV : v_ok V) (hx : zr x) : f_X2_levelAt j σ x = some (q_lv V x, σ) := by
  unfold zr at hx
  have h1 := hC.1
  have hF := hV.1
  unfold q_lv
  by_cases h : 0 ≤ x ∧ x < v_F V
  · have h2 := hC.2.2.1 x h.1 h.2
    simp (disch := omega) only [f_X2_levelAt, f_X2_levelAt_b22, f_X2_levelAt_b21, zr, z_ifp, z_ifn, if_true, if_false, h2]
  · by_cases h0 : x < 0
    · simp (disch := omega) only [f_X2_levelAt, f_X2_levelAt_b22, f_X2_levelAt_b21, zr, z_ifp, z_ifn, if_true, if_false]
    · simp (disch := omega) only [f_X2_levelAt, f_X2_levelAt_b22, f_X2_levelAt_b21, zr, z_ifp, z_ifn, if_true, if_false]
theorem c_isQuiet {j : Nat} {σ : zS} {V : zV} {x : Int} (hC : v_C σ j V) (hV : v_ok V) (hx : -1000 ≤ x ∧ x ≤ 1000) : f_X2_isQuiet j σ x = some (if q_qt V x then 1 else 0, σ) := by
  have h1 := c_levelAt hC hV (x := x) ⟨by omega, by omega⟩
  have h2 := c_levelAt hC hV (x := x - 1) ⟨by omega, by omega⟩
  have h3 := hC.2.2.2.2 1 (by omega) (by omega)
  have h4 := q_lv_ok hV x
  have h5 := q_lv_ok hV (x - 1)
  have h6 := hV.2.2.2.2.2.2.1
  unfold q_qt
  by_cases a : v_S V 1 < q_lv V (x - 1)
  · simp (disch := omega) only [f_X2_isQuiet, f_X2_isQuiet_b31, f_X2_isQuiet_b32, zr, z_ifp, z_ifn, if_true, if_false, h1, h2, h3, z_bd]
  · by_cases b : v_S V 1 < q_lv V x
    · simp (disch := omega) only [f_X2_isQuiet, f_X2_isQuiet_b31, f_X2_isQuiet_b32, zr, z_ifp, z_ifn, if_true, if_false, h1, h2, h3, z_bd]
    · simp (disch := omega) only [f_X2_isQuiet, f_X2_isQuiet_b31, f_X2_isQuiet_b32, zr, z_ifp, z_ifn, if_true, if_false, h1, h2, h3, z_bd]
theorem c_hasMark {j : Nat} {σ : zS} {V : zV} {x : Int} (hC : v_C σ j V) (hV : v_ok V) (hx : zr x) : f_X2_hasMark j σ x = some (if 0 ≤ x ∧ x < v_M V then 1 else 0, σ) := by
  unfold zr at hx
  have h1 := hC.2.1
  have hM := hV.2.1
  by_cases h : 0 ≤ x ∧ x < v_M V
  · simp (disch := omega) only [f_X2_hasMark, f_X2_hasMark_b16, f_X2_hasMark_b17, zr, z_ifp, z_ifn, if_true, if_false]
  · by_cases h0 : x < 0
    · simp (disch := omega) only [f_X2_hasMark, f_X2_hasMark_b16, f_X2_hasMark_b17, zr, z_ifp, z_ifn, if_true, if_false]
    · simp (disch := omega) only [f_X2_hasMark, f_X2_hasMark_b16, f_X2_hasMark_b17, zr, z_ifp, z_ifn, if_true, if_false]
theorem c_endBefore {j : Nat} {σ : zS} {V : zV} {m : Int} (hC : v_C σ j V) (hV : v_ok V) (m0 : 0 ≤ m) (m1 : m < v_M V) : f_X2_endOfMarkBefore j σ m = some (if 0 < m then v_K V 2 (m - 1) else 0, σ) := by
  have hM := hV.2.1
  have h1 := c_hasMark hC hV (x := m - 1) ⟨by omega, by omega⟩
  by_cases h : 0 < m
  · have h2 := (hC.2.2.2.1 (m - 1) (by omega) (by omega)).2.2.1
    simp (disch := omega) only [f_X2_endOfMarkBefore, f_X2_endOfMarkBefore_b22, zr, z_ifp, z_ifn, if_true, if_false, h1, z_bd, h2]
  · simp (disch := omega) only [f_X2_endOfMarkBefore, f_X2_endOfMarkBefore_b22, zr, z_ifp, z_ifn, if_true, if_false, h1, z_bd]
theorem c_firstAfter {j : Nat} {σ : zS} {V : zV} {m : Int} (hC : v_C σ j V) (hV : v_ok V) (m0 : 0 ≤ m) (m1 : m < v_M V) : f_X2_firstOfMarkAfter j σ m = some (q_high V m, σ) := by
  have hM := hV.2.1
  have h1 := c_hasMark hC hV (x := m + 1) ⟨by omega, by omega⟩
  unfold q_high
  by_cases h : m + 1 < v_M V
  · have h2 := (hC.2.2.2.1 (m + 1) (by omega) (by omega)).2.1
    simp (disch := omega) only [f_X2_firstOfMarkAfter, f_X2_firstOfMarkAfter_b25, zr, z_ifp, z_ifn, if_true, if_false, h1, z_bd, h2]
  · have h2 := hC.1
    simp (disch := omega) only [f_X2_firstOfMarkAfter, f_X2_firstOfMarkAfter_b25, zr, z_ifp, z_ifn, if_true, if_false, h1, z_bd, h2]
theorem c_seam_l {j : Nat} {σ : zS} {V : zV} {t w lo hi : Int} (hC : v_C σ j V) (hV : v_ok V) (ht : 0 ≤ t ∧ t ≤ 200) (hw : 0 ≤ w ∧ w ≤ 20) (hlo : 0 ≤ lo ∧ lo ≤ 300) (hhi : -10 ≤ hi ∧ hi ≤ 300) : ∀ (n f : Nat) (d : Int), n < f → 0 ≤ d → d + n = w + 1 → f_X2_nearestQuietSeam_l3 j f σ t w lo hi d = some (q_seam V t lo hi n d, σ) := by
  intro n
  induction n with
  | zero =>
    intro f d hf d0 hd
    obtain ⟨f, rfl⟩ : ∃ k, f = k + 1 := ⟨f - 1, by omega⟩
    simp (disch := omega) only [f_X2_nearestQuietSeam_l3, f_X2_nearestQuietSeam_b3, zr, z_ifp, q_seam]
  | succ n ih =>
    intro f d hf d0 hd
    obtain ⟨f, rfl⟩ : ∃ k, f = k + 1 := ⟨f - 1, by omega⟩
    have ih := ih f (d + 1) (by omega) (by omega) (by omega)
    have h1 := c_isQuiet hC hV (x := t - d) (by omega)
    have h2 := c_isQuiet hC hV (x := t + d) (by omega)
    unfold q_seam
    have hB : f_X2_nearestQuietSeam_b40 j (f_X2_nearestQuietSeam_l3 j f) σ t w lo hi d = some (if (lo ≤ t + d ∧ t + d ≤ hi) ∧ q_qt V (t + d) then t + d else q_seam V t lo hi n (d + 1), σ) := by
      by_cases a : lo ≤ t + d
      · by_cases b : t + d ≤ hi
        · by_cases c : q_qt V (t + d)
          · simp (disch := omega) only [f_X2_nearestQuietSeam_b40, f_X2_nearestQuietSeam_b71, zr, z_ifp, z_ifn, if_true, if_false, h2, z_bd, a, b, c, true_and, and_self]
          · simp (disch := omega) only [f_X2_nearestQuietSeam_b40, f_X2_nearestQuietSeam_b71, zr, z_ifp, z_ifn, if_true, if_false, h2, z_bd, a, b, c, ih, and_false]
        · simp (disch := omega) only [f_X2_nearestQuietSeam_b40, f_X2_nearestQuietSeam_b71, zr, z_ifp, z_ifn, if_true, if_false, a, b, ih, if_false, and_false, false_and]
      · simp (disch := omega) only [f_X2_nearestQuietSeam_b40, f_X2_nearestQuietSeam_b71, zr, z_ifp, z_ifn, if_true, if_false, a, ih, false_and]
    by_cases a : lo ≤ t - d
    · by_cases b : t - d ≤ hi
      · by_cases c : q_qt V (t - d)
        · simp (disch := omega) only [f_X2_nearestQuietSeam_l3, f_X2_nearestQuietSeam_b3, zr, z_ifp, z_ifn, if_true, if_false, h1, z_bd, a, b, c, true_and, and_self]
        · simp (disch := omega) only [f_X2_nearestQuietSeam_l3, f_X2_nearestQuietSeam_b3, zr, z_ifp, z_ifn, if_true, if_false, h1, z_bd, a, b, c, hB, and_false]
      · simp (disch := omega) only [f_X2_nearestQuietSeam_l3, f_X2_nearestQuietSeam_b3, zr, z_ifp, z_ifn, if_true, if_false, a, b, hB, if_false, and_false, false_and]
    · simp (disch := omega) only [f_X2_nearestQuietSeam_l3, f_X2_nearestQuietSeam_b3, zr, z_ifp, z_ifn, if_true, if_false, a, hB, false_and]
theorem c_seam {j : Nat} {σ : zS} {V : zV} {t w lo hi : Int} (hC : v_C σ j V) (hV : v_ok V) (ht : 0 ≤ t ∧ t ≤ 200) (hw : 0 ≤ w ∧ w ≤ 20) (hlo : 0 ≤ lo ∧ lo ≤ 300) (hhi : -10 ≤ hi ∧ hi ≤ 300) : f_X2_nearestQuietSeam j σ t w lo hi = some (q_sm V t w lo hi, σ) := by
  unfold f_X2_nearestQuietSeam q_sm
  exact c_seam_l hC hV ht hw hlo hhi (w + 1).toNat z_fuel 0 (by unfold z_fuel; omega) (by omega) (by omega)
/-- the class' list of cuts holds s -/
def r_C (σ : zS) (s : zL) : Prop := σ 48 5 = s.1 ∧ ∀ i, 0 ≤ i → i < s.1 → σ 49 i = s.2 0 i ∧ σ 50 i = s.2 1 i ∧ σ 51 i = s.2 2 i ∧ σ 52 i = s.2 3 i ∧ σ 53 i = s.2 4 i
theorem c_addCut {σ : zS} {s : zL} {b e p r m : Int} (hs : r_C σ s) (hn : 0 ≤ s.1 ∧ s.1 < 20) (hr : 0 ≤ r ∧ r ≤ 1) : ∃ τ, f_X0_addCut σ b e p r m = some ((), τ) ∧ r_C τ (q_push s b e p r m) ∧ z_out 48 53 σ τ := by
  have h1 := hs.1
  refine ⟨z_up (z_up (z_up (z_up (z_up (z_up σ 49 (σ 48 5) b) 50 (σ 48 5) e) 51 (σ 48 5) p) 52 (σ 48 5) r) 53 (σ 48 5) m) 48 5 (σ 48 5 + 1), ?_, ?_, ?_⟩
  · simp (disch := omega) only [f_X0_addCut, z_put, zr, z_ifp, z_ifn, if_true, if_false, z_rn]
  · refine ⟨by rw [z_re, h1]; rfl, fun i i0 i1 => ?_⟩
    have i1 : i < s.1 + 1 := i1
    by_cases hi : i = s.1
    · subst hi
      simp only [q_push, h1]
      simp (disch := omega) only [z_rn, z_re, z_ifp, z_ifn, if_true, if_false, and_self]
    · have h2 := hs.2 i i0 (by omega)
      simp (disch := omega) only [q_push, z_ifn hi, z_rn, z_ri]
      exact h2
  · exact z_out_up (z_out_up (z_out_up (z_out_up (z_out_up (z_out_up z_out_rf (by omega) (by omega)) (by omega) (by omega)) (by omega) (by omega)) (by omega) (by omega)) (by omega) (by omega)) (by omega) (by omega)
theorem c_endOfLast {σ : zS} {s : zL} (hs : r_C σ s) (hn : 0 ≤ s.1 ∧ s.1 ≤ 20) : f_X0_endOfLastCut σ = some (if 0 < s.1 then s.2 1 (s.1 - 1) else 0, σ) := by
  have h1 := hs.1
  by_cases h : 0 < s.1
  · have h2 := (hs.2 (s.1 - 1) (by omega) (by omega)).2.1
    simp (disch := omega) only [f_X0_endOfLastCut, f_X0_endOfLastCut_b30, f_X0_endOfLastCut_b31, h1, zr, z_ifp, z_ifn, if_true, if_false, h2]
  · simp (disch := omega) only [f_X0_endOfLastCut, f_X0_endOfLastCut_b30, f_X0_endOfLastCut_b31, h1, zr, z_ifp, z_ifn, if_true, if_false]
theorem c_addFiller {σ : zS} {V : zV} {s : zL} {m w : Int} (hC : v_C σ 0 V) (hV : v_ok V) (hs : r_C σ s) (hk : q_cok V s m) (m0 : 0 ≤ m) (m1 : m < v_M V) (hw : 0 ≤ w ∧ w ≤ 20) : ∃ τ, f_X0_addFillerCut σ m w = some ((), τ) ∧ r_C τ (q_fill V w s m) ∧ z_out 48 53 σ τ := by
  obtain ⟨f1, f2, f3, f4, f5, f6, f7, f8, f9⟩ := q_fill_facts hV (w := w) m0 m1 hk
  have hM := hV.2.1
  have hF := hV.1
  have hm := (hV.2.2.2.1 m m0 m1).2.1
  obtain ⟨e2, e3, e4, e5, e6⟩ := (v_C0 hC).2.2.2.1 m m0 m1
  have s3 := (v_C0 hC).2.2.2.2 3 (by omega) (by omega)
  have s4 := (v_C0 hC).2.2.2.2 4 (by omega) (by omega)
  have hn := hk.1
  have g1 := c_endOfLast hs (by omega)
  have g2 := c_endBefore hC hV m0 m1
  have g3 := c_seam hC hV (t := v_K V 1 m) (w := w) (lo := q_low V s m) (hi := v_K V 2 m - 1) (by omega) hw (by omega) (by omega)
  have g4 := c_firstAfter hC hV m0 m1
  have g5 := c_seam hC hV (t := v_K V 2 m) (w := w) (lo := q_b V w s m + 1) (hi := q_high V m) (by omega) hw (by omega) (by omega)
  have b0 : q_sm V (v_K V 1 m) w (q_low V s m) (v_K V 2 m - 1) = q_b0 V w s m := rfl
  have b1 : q_sm V (v_K V 2 m) w (q_b V w s m + 1) (q_high V m) = q_e0 V w s m := rfl
  rw [b0] at g3
  rw [b1] at g5
  have hlow : 0 ≤ (if 0 < s.1 then s.2 1 (s.1 - 1) else 0) ∧ (if 0 < s.1 then s.2 1 (s.1 - 1) else 0) ≤ 200 := by
    by_cases h : 0 < s.1
    · rw [if_pos h]
      have h5 := (hk.2.1 (s.1 - 1) (by omega) (by omega)).1
      omega
    · rw [if_neg h]; omega
  have hlow2 : 0 ≤ (if 0 < m then v_K V 2 (m - 1) else 0) ∧ (if 0 < m then v_K V 2 (m - 1) else 0) ≤ 200 := by
    by_cases h : 0 < m
    · rw [if_pos h]
      have h5 := (hV.2.2.2.1 (m - 1) (by omega) (by omega)).2.1
      omega
    · rw [if_neg h]; omega
  have hle : (if (if 0 < s.1 then s.2 1 (s.1 - 1) else 0) < (if 0 < m then v_K V 2 (m - 1) else 0) then (if 0 < m then v_K V 2 (m - 1) else 0) else (if 0 < s.1 then s.2 1 (s.1 - 1) else 0)) = q_low V s m := rfl
  have hs4 := hV.2.2.2.2.2.2.2.2.2.1
  have hs3 := hV.2.2.2.2.2.2.2.2.1
  have k1 : 0 ≤ (q_e V w s m - q_b V w s m) * v_S V 4 := Int.mul_nonneg (by omega) hs4.1
  have k2 : (q_e V w s m - q_b V w s m) * v_S V 4 ≤ (q_e V w s m - q_b V w s m) * 100 := Int.mul_le_mul_of_nonneg_left hs4.2 (by omega)
  have k3 : 0 ≤ ((q_e V w s m - q_b V w s m) * v_S V 4).tdiv 100 ∧ ((q_e V w s m - q_b V w s m) * v_S V 4).tdiv 100 ≤ 200 := by
    rw [q_tdiv k1]; omega
  -- behind the end's seam
  have hT : ∀ x7 x10 r : Int, (0 ≤ x7 ∧ x7 ≤ 1) → (0 ≤ x10 ∧ x10 ≤ 1) → (r = 0 ∧ x7 = 0 ∧ x10 = 0 ∨ r = 1 ∧ (x7 = 1 ∨ x10 = 1)) → f_X0_addFillerCut_b111 σ m (q_b V w s m) x7 (q_e V w s m) x10 = z_bind (f_X0_addCut σ (q_b V w s m) (q_e V w s m) (q_p V w s m) r m) (fun _ σ1 => some ((), σ1)) := by
    intro x7 x10 r h7 h10 h11
    have hp : (if ((q_e V w s m - q_b V w s m) * v_S V 4).tdiv 100 < v_S V 3 then ((q_e V w s m - q_b V w s m) * v_S V 4).tdiv 100 else v_S V 3) = q_p V w s m := rfl
    unfold f_X0_addFillerCut_b111 f_X0_addFillerCut_b158 f_X0_addFillerCut_b163
    rw [s3, s4, hp, if_pos (by omega), if_pos (by omega), if_pos (by omega), if_pos (by omega), if_pos (by omega)]
    by_cases a : x7 = 0
    · rw [if_neg (by omega), if_pos (by omega)]
      by_cases b : x10 = 0
      · rw [if_pos b, show r = 0 by omega]
      · rw [if_neg b, show r = 1 by omega]
    · rw [if_pos (by omega), show r = 1 by omega]
  obtain ⟨r0, hr0⟩ : ∃ r0 : Int, r0 = (if q_b0 V w s m = -1 ∨ q_e0 V w s m = -1 then 1 else 0) := ⟨_, rfl⟩
  obtain ⟨τ, t1, t2, t3⟩ := c_addCut hs (b := q_b V w s m) (e := q_e V w s m) (p := q_p V w s m) (r := r0) (m := m) (by omega) (by rw [hr0]; split <;> omega)
  refine ⟨τ, ?_, ?_, t3⟩
  · have hU : ∀ x7 : Int, (0 ≤ x7 ∧ x7 ≤ 1) → (x7 = 0 ↔ ¬ q_b0 V w s m = -1) → f_X0_addFillerCut_b67 σ m w (v_K V 2 m) (q_b V w s m) x7 = some ((), τ) := by
      intro x7 h7 h8
      have h12 : z_bind (f_X0_addCut σ (q_b V w s m) (q_e V w s m) (q_p V w s m) r0 m) (fun _ σ1 => some ((), σ1)) = some ((), τ) := by rw [t1]; rfl
      unfold f_X0_addFillerCut_b67 f_X0_addFillerCut_b100
      rw [g4, z_bd, g5, z_bd, if_pos (by omega)]
      by_cases b : q_e0 V w s m = -1
      · have e9 : q_e V w s m = v_K V 2 m := by unfold q_e; rw [if_pos b]
        have hT := hT x7 1 r0 h7 (by omega) (by rw [hr0, if_pos (Or.inr b)]; omega)
        rw [if_neg (by omega), if_pos (by omega), if_neg (by omega), ← e9, hT, h12]
      · have e9 : q_e V w s m = q_e0 V w s m := by unfold q_e; rw [if_neg b]
        have hT := hT x7 0 r0 h7 (by omega) (by
          rw [hr0]
          by_cases a : q_b0 V w s m = -1
          · rw [if_pos (Or.inl a)]; omega
          · rw [if_neg (by omega)]; omega)
        rw [if_pos (by omega), if_pos (by omega), if_pos (by omega), ← e9, hT, h12]
    unfold f_X0_addFillerCut f_X0_addFillerCut_b52
    rw [if_pos (by omega), g1, z_bd, g2, z_bd, if_pos (by omega), if_pos (by omega), hle, e3, e4, g3, z_bd, if_pos (by omega)]
    by_cases a : q_b0 V w s m = -1
    · have e9 : q_b V w s m = v_K V 1 m := by unfold q_b; rw [if_pos a]
      have hU := hU 1 (by omega) (by omega)
      rw [e9] at hU
      rw [if_neg (by omega), if_pos (by omega), if_neg (by omega), if_pos (by omega), e3]
      exact hU
    · have e9 : q_b V w s m = q_b0 V w s m := by unfold q_b; rw [if_neg a]
      have hU := hU 0 (by omega) (by omega)
      rw [e9] at hU
      rw [if_pos (by omega), if_pos (by omega), if_pos (by omega)]
      exact hU
  · rw [hr0] at t2
    exact t2
