/-! BESTWINDOW, GREATESTDOUBT -/
/-- the rough cuts, the frames cut, with a doubt and a window -/
def q_ro (V : zV) (d w : Int) : Int := q_sum ((q_cuts V d w (v_M V).toNat).2 3) (q_cuts V d w (v_M V).toNat).1.toNat
def q_fr (V : zV) (d w : Int) : Int := q_sum (fun i => (q_cuts V d w (v_M V).toNat).2 1 i - (q_cuts V d w (v_M V).toNat).2 0 i) (q_cuts V d w (v_M V).toNat).1.toNat
theorem q_ro_ok {V : zV} (hV : v_ok V) (d w : Int) : 0 ≤ q_ro V d w ∧ q_ro V d w ≤ 20 := by
  have hk := q_kok hV d w
  have hM := hV.2.1
  have hn := hk.1
  have := q_sum_le (f := (q_cuts V d w (v_M V).toNat).2 3) (b := 1) (q_cuts V d w (v_M V).toNat).1.toNat (fun i i0 i1 => (hk.2.1 i (by omega) (by omega)).2.2.1)
  unfold q_ro
  omega
theorem q_fr_ok {V : zV} (hV : v_ok V) (d w : Int) : 0 ≤ q_fr V d w ∧ q_fr V d w ≤ 4000 := by
  have hk := q_kok hV d w
  have hM := hV.2.1
  have hF := hV.1
  have hn := hk.1
  have := q_sum_le (f := fun i => (q_cuts V d w (v_M V).toNat).2 1 i - (q_cuts V d w (v_M V).toNat).2 0 i) (b := 200) (q_cuts V d w (v_M V).toNat).1.toNat (fun i i0 i1 => by have := (hk.2.1 i (by omega) (by omega)).1; show 0 ≤ _ - _ ∧ _ - _ ≤ _; omega)
  unfold q_fr
  omega
abbrev p_W (a : Nat) (b : Int) : Prop := a = 6 ∨ (a = 0 ∧ b = 12) ∨ (a = 1 ∧ b = 2)
abbrev p_G (a : Nat) (b : Int) : Prop := a = 6 ∨ (a = 0 ∧ b = 12) ∨ (a = 1 ∧ b = 0)
theorem o_best_l {V : zV} (hV : v_ok V) : ∀ (n f g : Nat) (w b x y : Int) (σ τ : zS), n < f → n < g → 0 ≤ w → w + n = 21 → v_C σ 0 V → (∃ w0, v_Q (τ 1) V (v_S V 0) w0) → ((x = y ∧ 0 ≤ x ∧ x ≤ 20) ∨ (21 ≤ x ∧ x ≤ 99 ∧ 21 ≤ y ∧ y ≤ 99)) → ∃ (r : Int) (σ' τ' : zS), f_X5_bestWindow_l7 f σ b x w = some (r, σ') ∧ f_X6_bestWindow_l15 g τ (v_S V 2) b y w = some (r, τ') ∧ z_out 48 53 σ σ' ∧ z_ex p_W τ τ' ∧ τ' 1 2 = v_S V 2 := by
  intro n
  have k0 := hV.2.2.2.2.2.1
  induction n with
  | zero =>
    intro f g w b x y σ τ hf hg w0 hw hC hR hxy
    obtain ⟨f, rfl⟩ : ∃ k, f = k + 1 := ⟨f - 1, by omega⟩
    obtain ⟨g, rfl⟩ : ∃ k, g = k + 1 := ⟨g - 1, by omega⟩
    refine ⟨b, σ, z_up τ 1 2 (v_S V 2), ?_, ?_, z_out_rf, z_ex_up z_ex_rf (by omega), z_re⟩
    · show f_X5_bestWindow_b7 _ σ b x w = _
      unfold f_X5_bestWindow_b7
      rw [if_pos (by unfold zr; omega), if_pos (by omega)]
    · show f_X6_bestWindow_b15 _ τ (v_S V 2) b y w = _
      unfold f_X6_bestWindow_b15
      rw [if_pos (by unfold zr; omega), if_pos (by omega), if_pos (by omega), z_put]
  | succ n ih =>
    intro f g w b x y σ τ hf hg w0 hw hC hR hxy
    obtain ⟨f, rfl⟩ : ∃ k, f = k + 1 := ⟨f - 1, by omega⟩
    obtain ⟨g, rfl⟩ : ∃ k, g = k + 1 := ⟨g - 1, by omega⟩
    obtain ⟨wq, hR⟩ := hR
    have hk := q_kok hV (v_S V 0) w
    have hM := hV.2.1
    have hn := hk.1
    have hro := q_ro_ok hV (v_S V 0) w
    have s0 := (v_C0 hC).2.2.2.2 0 (by omega) (by omega)
    obtain ⟨σ1, c1, c2, c3⟩ := c_find (d := v_S V 0) (w := w) hC hV k0 (by omega)
    have x0 : z_ex p_W τ (z_up τ 1 2 w) := z_ex_up z_ex_rf (by omega)
    have hR2 : v_Q ((z_up τ 1 2 w) 1) V (v_S V 0) w := by
      obtain ⟨q1, q2, q3, q4, q5, q6, q7, q8, q9, q10, q11⟩ := hR
      have hF := hV.1
      refine ⟨by rw [z_ri (by omega)]; exact q1, by rw [z_ri (by omega)]; exact q2, fun i i0 i1 => by rw [z_ri (by omega)]; exact q3 i i0 i1, fun m m0 m1 => ?_, by rw [z_ri (by omega)]; exact q5, by rw [z_ri (by omega)]; exact q6, z_re, by rw [z_ri (by omega)]; exact q8, by rw [z_ri (by omega)]; exact q9, by rw [z_ri (by omega)]; exact q10, by rw [z_ri (by omega)]; exact q11⟩
      rw [z_ri (by omega), z_ri (by omega), z_ri (by omega), z_ri (by omega), z_ri (by omega)]
      exact q4 m m0 m1
    obtain ⟨τ1, d1, d2, d3⟩ := m_finds hR2 hV k0 (show 0 ≤ w ∧ w ≤ 20 by omega)
    have hrc : f_X0_roughCuts σ1 = some (q_ro V (v_S V 0) w, σ1) := c_roughCuts c2 hk (by omega)
    have hrm : f_X6_sumOf τ1 2 = some (q_ro V (v_S V 0) w, τ1) := m_sumOf (x := 2) d2 (by omega) (by omega)
    have x1 : z_ex p_W τ τ1 := z_ex_tr x0 (z_ex_le d3 (fun a b h => by omega))
    have hR3 : v_Q (τ1 1) V (v_S V 0) w := v_Q_ex hR2 d3 (by omega)
    by_cases e : q_ro V (v_S V 0) w < x
    · obtain ⟨r, σ', τ', t1, t2, t3, t4, t5⟩ := ih f g (w + 1) w (q_ro V (v_S V 0) w) (q_ro V (v_S V 0) w) σ1 τ1 (by omega) (by omega) (by omega) (by omega) (v_C_out hC c3 (by omega)) ⟨w, hR3⟩ (Or.inl ⟨rfl, hro⟩)
      refine ⟨r, σ', τ', ?_, ?_, z_out_tr c3 t3, z_ex_tr x1 t4, t5⟩
      · show f_X5_bestWindow_b7 _ σ b x w = _
        unfold f_X5_bestWindow_b7 f_X5_bestWindow_b54
        rw [if_pos (by unfold zr; omega), if_neg (by omega), if_pos (by omega), s0, c1, z_bd, hrc, z_bd, if_pos (by unfold zr; omega), if_neg (by omega)]
        exact t1
      · show f_X6_bestWindow_b15 _ τ (v_S V 2) b y w = _
        unfold f_X6_bestWindow_b15 f_X6_bestWindow_b49 f_X6_bestWindow_b68
        rw [if_pos (by unfold zr; omega), if_neg (by omega), if_pos (by omega), z_put, d1, z_bd, hrm, z_bd, if_pos (by unfold zr; omega), if_neg (by omega), hrm, z_bd, if_pos (by unfold zr; omega), if_neg (by omega), hrm, z_bd]
        exact t2
    · obtain ⟨r, σ', τ', t1, t2, t3, t4, t5⟩ := ih f g (w + 1) b x y σ1 τ1 (by omega) (by omega) (by omega) (by omega) (v_C_out hC c3 (by omega)) ⟨w, hR3⟩ hxy
      refine ⟨r, σ', τ', ?_, ?_, z_out_tr c3 t3, z_ex_tr x1 t4, t5⟩
      · show f_X5_bestWindow_b7 _ σ b x w = _
        unfold f_X5_bestWindow_b7 f_X5_bestWindow_b54
        rw [if_pos (by unfold zr; omega), if_neg (by omega), if_pos (by omega), s0, c1, z_bd, hrc, z_bd, if_pos (by unfold zr; omega), if_pos (by omega)]
        exact t1
      · show f_X6_bestWindow_b15 _ τ (v_S V 2) b y w = _
        unfold f_X6_bestWindow_b15 f_X6_bestWindow_b49 f_X6_bestWindow_b68
        rw [if_pos (by unfold zr; omega), if_neg (by omega), if_pos (by omega), z_put, d1, z_bd, hrm, z_bd, if_pos (by unfold zr; omega), if_pos (by omega), hrm, z_bd, if_pos (by unfold zr; omega), if_pos (by omega)]
        exact t2
/-- what was put back is as it was -/
theorem z_back {τ τ' : zS} {k : Int} (h : z_ex (fun a b => a = 6 ∨ (a = 0 ∧ b = 12) ∨ (a = 1 ∧ b = k)) τ τ') (h2 : τ' 1 k = τ 1 k) : z_ex p_F τ τ' := by
  intro a b hn
  by_cases e : a = 1 ∧ b = k
  · rw [e.1, e.2]; exact h2
  · exact h a b (by omega)
theorem o_best {A : zA} {σ τ : zS} (hA : a_ok A) (hC : a_C σ A) (hM : a_M τ A) : o_eq (f_X5_bestWindow σ) (f_X6_bestWindow τ) := by
  have hV := hA.2.1
  have s2 := hM.2.1.2.2.2.2 2 (by omega) (by omega)
  obtain ⟨r, σ', τ', t1, t2, t3, t4, t5⟩ := o_best_l hV 21 z_fuel z_fuel 0 0 21 99 σ τ (by unfold z_fuel; omega) (by unfold z_fuel; omega) (by omega) (by omega) hC.2.1 ⟨_, v_Q_of hM.2.1⟩ (Or.inr (by omega))
  refine ⟨r, σ', τ', A, t1, ?_, hA, a_C48 hA hC t3, a_MF hM (z_back t4 (by rw [t5, s2]))⟩
  unfold f_X6_bestWindow
  rw [if_pos (by omega), s2]
  exact t2
-- the greatest doubt
/-- the greatest doubt below n with which at most x frames are cut -/
def q_gd (V : zV) (w x : Int) : Nat → Int
  | 0 => -9
  | n + 1 => if q_fr V n w ≤ x then n else q_gd V w x n
theorem m_gd_l {V : zV} {x : Int} (hV : v_ok V) (hx : 0 ≤ x ∧ x < 2147483648) : ∀ (n d g : Nat) (τ : zS), n < g → d + n = 101 → (∃ d0, v_Q (τ 1) V d0 (v_S V 2)) → ∃ τ', f_X6_greatestDoubt_l19 g τ x (v_S V 0) (q_gd V (v_S V 2) x d) d = some (q_gd V (v_S V 2) x 101, τ') ∧ z_ex p_G τ τ' ∧ τ' 1 0 = v_S V 0 := by
  intro n
  have k2 := hV.2.2.2.2.2.2.2.1
  induction n with
  | zero =>
    intro d g τ hg hd hR
    obtain ⟨g, rfl⟩ : ∃ k, g = k + 1 := ⟨g - 1, by omega⟩
    refine ⟨z_up τ 1 0 (v_S V 0), ?_, z_ex_up z_ex_rf (by omega), z_re⟩
    have e : d = 101 := by omega
    subst e
    show f_X6_greatestDoubt_b19 _ τ x (v_S V 0) _ _ = _
    unfold f_X6_greatestDoubt_b19
    rw [if_pos (by unfold zr; omega), if_pos (by omega), if_pos (by omega), z_put]
  | succ n ih =>
    intro d g τ hg hd hR
    obtain ⟨g, rfl⟩ : ∃ k, g = k + 1 := ⟨g - 1, by omega⟩
    obtain ⟨dq, hR⟩ := hR
    have hk := q_kok hV d (v_S V 2)
    have hM := hV.2.1
    have hn := hk.1
    have hfr := q_fr_ok hV d (v_S V 2)
    have x0 : z_ex p_G τ (z_up τ 1 0 d) := z_ex_up z_ex_rf (by omega)
    have hR2 : v_Q ((z_up τ 1 0 d) 1) V d (v_S V 2) := by
      obtain ⟨q1, q2, q3, q4, q5, q6, q7, q8, q9, q10, q11⟩ := hR
      have hF := hV.1
      refine ⟨by rw [z_ri (by omega)]; exact q1, by rw [z_ri (by omega)]; exact q2, fun i i0 i1 => by rw [z_ri (by omega)]; exact q3 i i0 i1, fun m m0 m1 => ?_, z_re, by rw [z_ri (by omega)]; exact q6, by rw [z_ri (by omega)]; exact q7, by rw [z_ri (by omega)]; exact q8, by rw [z_ri (by omega)]; exact q9, by rw [z_ri (by omega)]; exact q10, by rw [z_ri (by omega)]; exact q11⟩
      rw [z_ri (by omega), z_ri (by omega), z_ri (by omega), z_ri (by omega), z_ri (by omega)]
      exact q4 m m0 m1
    obtain ⟨τ1, d1, d2, d3⟩ := m_finds hR2 hV (show (0 : Int) ≤ d ∧ (d : Int) ≤ 100 by omega) k2
    have hrm : f_X6_sumOf τ1 0 = some (q_fr V d (v_S V 2), τ1) := m_sumOf (x := 0) d2 (by omega) (by omega)
    have x1 : z_ex p_G τ τ1 := z_ex_tr x0 (z_ex_le d3 (fun a b h => by omega))
    have hR3 : v_Q (τ1 1) V d (v_S V 2) := v_Q_ex hR2 d3 (by omega)
    obtain ⟨τ', t1, t2, t3⟩ := ih (d + 1) g τ1 (by omega) (by omega) ⟨d, hR3⟩
    refine ⟨τ', ?_, z_ex_tr x1 t2, t3⟩
    have hq : q_gd V (v_S V 2) x (d + 1) = if q_fr V d (v_S V 2) ≤ x then (d : Int) else q_gd V (v_S V 2) x d := rfl
    show f_X6_greatestDoubt_b19 _ τ x (v_S V 0) _ _ = _
    unfold f_X6_greatestDoubt_b19 f_X6_greatestDoubt_b53
    rw [if_pos (by unfold zr; omega), if_neg (by omega), if_pos (by omega), z_put, d1, z_bd, hrm, z_bd, if_pos (by unfold zr; omega)]
    rw [show ((d + 1 : Nat) : Int) = (d : Int) + 1 by omega] at t1
    by_cases e : q_fr V d (v_S V 2) ≤ x
    · rw [if_pos e] at hq
      rw [hq] at t1
      rw [if_neg (by omega)]
      exact t1
    · rw [if_neg e] at hq
      rw [hq] at t1
      rw [if_pos (by omega)]
      exact t1
theorem c_filler_l {σ : zS} {V : zV} {x : Int} (hC : v_C σ 0 V) (hV : v_ok V) (hx : 0 ≤ x ∧ x ≤ 101) : ∀ (n f : Nat) (i : Int), n < f → 0 ≤ i → i + n = v_M V → (∀ m, 0 ≤ m → m < i → ¬ (v_K V 0 m = 0 ∧ v_K V 3 m = x)) → ∃ r, f_X2_hasFillerOfDoubt_l2 0 f σ x i = some (r, σ) ∧ (r = 1 ∨ (r = 0 ∧ ∀ m, 0 ≤ m → m < v_M V → ¬ (v_K V 0 m = 0 ∧ v_K V 3 m = x))) := by
  intro n
  have hM := hV.2.1
  have h7 := (v_C0 hC).2.1
  induction n with
  | zero =>
    intro f i hf i0 hi hno
    obtain ⟨f, rfl⟩ : ∃ k, f = k + 1 := ⟨f - 1, by omega⟩
    refine ⟨0, ?_, Or.inr ⟨rfl, fun m m0 m1 => hno m m0 (by omega)⟩⟩
    show f_X2_hasFillerOfDoubt_b2 0 _ σ x i = _
    unfold f_X2_hasFillerOfDoubt_b2
    simp only [Nat.mul_zero, Nat.zero_add]
    rw [h7, if_pos (by unfold zr; omega), if_pos (by omega)]
  | succ n ih =>
    intro f i hf i0 hi hno
    obtain ⟨f, rfl⟩ : ∃ k, f = k + 1 := ⟨f - 1, by omega⟩
    have hk := hV.2.2.2.1 i i0 (by omega)
    unfold v_mok at hk
    obtain ⟨e0, e1, e2, e3, e4⟩ := (v_C0 hC).2.2.2.1 i i0 (by omega)
    by_cases a : v_K V 0 i = 0 ∧ v_K V 3 i = x
    · refine ⟨1, ?_, Or.inl rfl⟩
      show f_X2_hasFillerOfDoubt_b2 0 _ σ x i = _
      unfold f_X2_hasFillerOfDoubt_b2
      simp only [Nat.mul_zero, Nat.zero_add]
      rw [h7, if_pos (by unfold zr; omega), if_neg (by omega), if_pos (by omega), e0, if_pos (by unfold zr; omega), if_neg (by omega), if_pos (by omega), e3, if_pos (by unfold zr; omega), if_neg (by omega)]
    · obtain ⟨r, t1, t2⟩ := ih f (i + 1) (by omega) (by omega) (by omega) (fun m m0 m1 => by
        by_cases e : m = i
        · rw [e]; exact a
        · exact hno m m0 (by omega))
      refine ⟨r, ?_, t2⟩
      show f_X2_hasFillerOfDoubt_b2 0 _ σ x i = _
      unfold f_X2_hasFillerOfDoubt_b2 f_X2_hasFillerOfDoubt_b31
      simp only [Nat.mul_zero, Nat.zero_add]
      rw [h7, if_pos (by unfold zr; omega), if_neg (by omega), if_pos (by omega), e0, if_pos (by unfold zr; omega)]
      by_cases b : v_K V 0 i = 0
      · rw [if_neg (by omega), if_pos (by omega), e3, if_pos (by unfold zr; omega), if_pos (by omega)]
        exact t1
      · rw [if_pos b]
        exact t1
theorem q_cuts_same {V : zV} {d w : Int} : ∀ n : Nat, (∀ m : Int, 0 ≤ m → m < n → ¬ (v_K V 0 m = 0 ∧ v_K V 3 m = d + 1)) → q_cuts V d w n = q_cuts V (d + 1) w n := by
  intro n
  induction n with
  | zero => intro _; rfl
  | succ n ih =>
    intro h
    have ih := ih (fun m m0 m1 => h m m0 (by omega))
    have hn := h n (by omega) (by omega)
    show q_step V d w (q_cuts V d w n) n = q_step V (d + 1) w (q_cuts V (d + 1) w n) n
    rw [ih]
    unfold q_step
    by_cases a : v_K V 4 n = 0 ∧ v_K V 0 n = 0 ∧ v_K V 3 n ≤ d
    · rw [if_pos a, if_pos (by omega)]
    · rw [if_neg a, if_neg (show ¬ (v_K V 4 n = 0 ∧ v_K V 0 n = 0 ∧ v_K V 3 n ≤ d + 1) by omega)]
theorem c_gd_l {V : zV} {x : Int} (hV : v_ok V) (hx : 0 ≤ x ∧ x < 2147483648) : ∀ (n f : Nat) (σ : zS), n < f → n ≤ 101 → v_C σ 0 V → (n < 101 → r_C σ (q_cuts V n (v_S V 2) (v_M V).toNat)) → ∃ σ', f_X5_greatestDoubt_l9 f σ x ((n : Int) - 1) = some (q_gd V (v_S V 2) x n, σ') ∧ z_out 48 53 σ σ' := by
  intro n
  have k2 := hV.2.2.2.2.2.2.2.1
  have hM := hV.2.1
  induction n with
  | zero =>
    intro f σ hf hn hC hr
    obtain ⟨f, rfl⟩ : ∃ k, f = k + 1 := ⟨f - 1, by omega⟩
    refine ⟨σ, ?_, z_out_rf⟩
    show f_X5_greatestDoubt_b9 _ σ x _ = _
    unfold f_X5_greatestDoubt_b9
    rw [if_pos (by unfold zr; omega), if_pos (by omega)]
    rfl
  | succ n ih =>
    intro f σ hf hn hC hr
    obtain ⟨f, rfl⟩ : ∃ k, f = k + 1 := ⟨f - 1, by omega⟩
    have s2 := (v_C0 hC).2.2.2.2 2 (by omega) (by omega)
    have hk := q_kok hV n (v_S V 2)
    have hnn := hk.1
    have hfr := q_fr_ok hV n (v_S V 2)
    have hq : q_gd V (v_S V 2) x (n + 1) = if q_fr V n (v_S V 2) ≤ x then (n : Int) else q_gd V (v_S V 2) x n := rfl
    have hB : ∀ υ, v_C υ 0 V → r_C υ (q_cuts V n (v_S V 2) (v_M V).toNat) → z_out 48 53 σ υ → ∃ σ', f_X5_greatestDoubt_b53 (f_X5_greatestDoubt_l9 f) υ x n = some (q_gd V (v_S V 2) x (n + 1), σ') ∧ z_out 48 53 σ σ' := by
      intro υ u1 u2 u3
      have hcf : f_X0_cutFrames υ = some (q_fr V n (v_S V 2), υ) := c_cutFrames u2 (by omega)
      unfold f_X5_greatestDoubt_b53
      rw [hcf, z_bd, if_pos (by unfold zr; omega), hq]
      by_cases e : q_fr V n (v_S V 2) ≤ x
      · exact ⟨υ, by rw [if_neg (by omega), if_pos e], u3⟩
      · obtain ⟨σ', t1, t2⟩ := ih f υ (by omega) (by omega) u1 (fun _ => u2)
        refine ⟨σ', ?_, z_out_tr u3 t2⟩
        rw [if_pos (by omega), if_neg e]
        exact t1
    have hF : ∀ υ, v_C υ 0 V → z_out 48 53 σ υ → ∃ σ', f_X5_greatestDoubt_b32 (f_X5_greatestDoubt_l9 f) υ x n = some (q_gd V (v_S V 2) x (n + 1), σ') ∧ z_out 48 53 σ σ' := by
      intro υ u1 u2
      have s2' := (v_C0 u1).2.2.2.2 2 (by omega) (by omega)
      obtain ⟨φ, p1, p2, p3⟩ := c_find (d := n) (w := v_S V 2) u1 hV (by omega) k2
      unfold f_X5_greatestDoubt_b32
      rw [if_pos (by omega), s2', p1, z_bd]
      exact hB φ (v_C_out u1 p3 (by omega)) p2 (z_out_tr u2 p3)
    rw [show (((n + 1 : Nat) : Int) - 1) = (n : Int) by omega]
    show ∃ σ', f_X5_greatestDoubt_b9 _ σ x n = _ ∧ _
    unfold f_X5_greatestDoubt_b9
    rw [if_pos (by unfold zr; omega), if_neg (by omega), if_pos (by unfold zr; omega)]
    by_cases a : (n : Int) = 100
    · rw [if_pos a]
      exact hF σ hC z_out_rf
    · obtain ⟨r, t1, t2⟩ := c_filler_l (x := (n : Int) + 1) hC hV (by omega) (v_M V).toNat z_fuel 0 (by unfold z_fuel; omega) (by omega) (by omega) (fun m m0 m1 => by omega)
      have t1 : f_X2_hasFillerOfDoubt 0 σ ((n : Int) + 1) = some (r, σ) := t1
      rw [if_neg a, t1, z_bd]
      rcases t2 with rfl | ⟨rfl, t2⟩
      · rw [if_pos (by decide), if_neg (by omega)]
        exact hF σ hC z_out_rf
      · rw [if_pos (by decide), if_pos rfl]
        have hs := q_cuts_same (V := V) (d := n) (w := v_S V 2) (v_M V).toNat (fun m m0 m1 => t2 m m0 (by omega))
        have hr := hr (by omega)
        rw [show ((n + 1 : Nat) : Int) = (n : Int) + 1 by omega, ← hs] at hr
        exact hB σ hC hr z_out_rf
theorem o_doubt {A : zA} {σ τ : zS} {x : Int} (hA : a_ok A) (hC : a_C σ A) (hM : a_M τ A) (hx : zr x) : o_eq (f_X5_greatestDoubt σ x) (f_X6_greatestDoubt τ x) := by
  have hV := hA.2.1
  have hxx := hx
  unfold zr at hxx
  by_cases a : 0 ≤ x
  · have s0 := hM.2.1.2.2.2.2 0 (by omega) (by omega)
    obtain ⟨σ', c1, c2⟩ := c_gd_l (x := x) hV (by omega) 101 z_fuel σ (by unfold z_fuel; omega) (by omega) hC.2.1 (fun h => by omega)
    obtain ⟨τ', t1, t2, t3⟩ := m_gd_l (x := x) hV (by omega) 101 0 z_fuel τ (by unfold z_fuel; omega) (by omega) ⟨_, v_Q_of hM.2.1⟩
    refine ⟨q_gd (a_V A) (v_S (a_V A) 2) x 101, σ', τ', A, ?_, ?_, hA, a_C48 hA hC c2, a_MF hM (z_back t2 (by rw [t3, s0]))⟩
    · unfold f_X5_greatestDoubt
      rw [if_pos hx, if_pos a]
      exact c1
    · unfold f_X6_greatestDoubt
      rw [if_pos hx, if_pos a, if_pos (by omega), s0]
      exact t1
  · refine ⟨-1, σ, τ, A, ?_, ?_, hA, hC, hM⟩
    · unfold f_X5_greatestDoubt
      rw [if_pos hx, if_neg a]
    · unfold f_X6_greatestDoubt
      rw [if_pos hx, if_neg a]
