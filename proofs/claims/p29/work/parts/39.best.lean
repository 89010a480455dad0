/-! BESTWINDOW, GREATESTDOUBT -/
/-- the rough cuts, the frames cut, with a doubt and a window -/
def q_ro (V : zV) (d w : Int) : Int := q_sum ((q_cuts V d w (v_M V).toNat).2 3) (q_cuts V d w (v_M V).toNat).1.toNat
def q_fr (V : zV) (d w : Int) : Int := q_sum (fun i => (q_cuts V d w (v_M V).toNat).2 1 i - (q_cuts V d w (v_M V).toNat).2 0 i) (q_cuts V d w (v_M V).toNat).1.toNat
theorem q_ro_ok {V : zV} (hV : v_ok V) (d w : Int) : 0 ≤ q_ro V d w ∧ q_ro V d w ≤ 20 := by
  have hk := q_kok hV d w
  have hM := hV.2.1
  have hn := hk.1
  have := q_sum_le (f := (q_cuts V d w (v_M V).toNat).2 3) (b := 1) (q_cuts V d w (v_M V).toNat).1.toNat (fun i i0 i1 => (hk.2.1 i (by omega) (by omega)).2.2.1)
  unfold q_ro
  omega
theorem q_fr_ok {V : zV} (hV : v_ok V) (d w : Int) : 0 ≤ q_fr V d w ∧ q_fr V d w ≤ 4000 := by
  have hk := q_kok hV d w
  have hM := hV.2.1
  have hF := hV.1
  have hn := hk.1
  have := q_sum_le (f := fun i => (q_cuts V d w (v_M V).toNat).2 1 i - (q_cuts V d w (v_M V).toNat).2 0 i) (b := 200) (q_cuts V d w (v_M V).toNat).1.toNat (fun i i0 i1 => by have := (hk.2.1 i (by omega) (by omega)).1; show 0 ≤ _ - _ ∧ _ - _ ≤ _; omega)
  unfold q_fr
  omega
-- the greatest doubt
/-- the greatest doubt below n with which at most x frames are cut -/
def q_gd (V : zV) (w x : Int) : Nat → Int
  | 0 => -9
  | n + 1 => if q_fr V n w ≤ x then n else q_gd V w x n
theorem c_filler_l {σ : zS} {V : zV} {x : Int} (hC : v_C σ 0 V) (hV : v_ok V) (hx : 0 ≤ x ∧ x ≤ 101) : ∀ (n f : Nat) (i : Int), n < f → 0 ≤ i → i + n = v_M V → (∀ m, 0 ≤ m → m < i → ¬ (v_K V 0 m = 0 ∧ v_K V 3 m = x)) → ∃ r, f_X2_hasFillerOfDoubt_l2 0 f σ x i = some (r, σ) ∧ (r = 1 ∨ (r = 0 ∧ ∀ m, 0 ≤ m → m < v_M V → ¬ (v_K V 0 m = 0 ∧ v_K V 3 m = x))) := by
  intro n
  have hM := hV.2.1
  have h7 := (v_C0 hC).2.1
  induction n with
  | zero =>
    intro f i hf i0 hi hno
    obtain ⟨f, rfl⟩ : ∃ k, f = k + 1 := ⟨f - 1, by omega⟩
    refine ⟨0, ?_, Or.inr ⟨rfl, fun m m0 m1 => hno m m0 (by omega)⟩⟩
    show f_X2_hasFillerOfDoubt_b2 0 _ σ x i = _
    unfold f_X2_hasFillerOfDoubt_b2
    simp only [Nat.mul_zero, Nat.zero_add]
    rw [h7, if_pos (by unfold zr; omega), if_pos (by omega)]
  | succ n ih =>
    intro f i hf i0 hi hno
    obtain ⟨f, rfl⟩ : ∃ k, f = k + 1 := ⟨f - 1, by omega⟩
    have hk := hV.2.2.2.1 i i0 (by omega)
    unfold v_mok at hk
    obtain ⟨e0, e1, e2, e3, e4⟩ := (v_C0 hC).2.2.2.1 i i0 (by omega)
    by_cases a : v_K V 0 i = 0 ∧ v_K V 3 i = x
    · refine ⟨1, ?_, Or.inl rfl⟩
      show f_X2_hasFillerOfDoubt_b2 0 _ σ x i = _
      unfold f_X2_hasFillerOfDoubt_b2
      simp only [Nat.mul_zero, Nat.zero_add]
      rw [h7, if_pos (by unfold zr; omega), if_neg (by omega), if_pos (by omega), e0, if_pos (by unfold zr; omega), if_neg (by omega), if_pos (by omega), e3, if_pos (by unfold zr; omega), if_neg (by omega)]
    · obtain ⟨r, t1, t2⟩ := ih f (i + 1) (by omega) (by omega) (by omega) (fun m m0 m1 => by
        by_cases e : m = i
        · rw [e]; exact a
        · exact hno m m0 (by omega))
      refine ⟨r, ?_, t2⟩
      show f_X2_hasFillerOfDoubt_b2 0 _ σ x i = _
      unfold f_X2_hasFillerOfDoubt_b2 f_X2_hasFillerOfDoubt_b31
      simp only [Nat.mul_zero, Nat.zero_add]
      rw [h7, if_pos (by unfold zr; omega), if_neg (by omega), if_pos (by omega), e0, if_pos (by unfold zr; omega)]
      by_cases b : v_K V 0 i = 0
      · rw [if_neg (by omega), if_pos (by omega), e3, if_pos (by unfold zr; omega), if_pos (by omega)]
        exact t1
      · rw [if_pos b]
        exact t1
theorem q_cuts_same {V : zV} {d w : Int} : ∀ n : Nat, (∀ m : Int, 0 ≤ m → m < n → ¬ (v_K V 0 m = 0 ∧ v_K V 3 m = d + 1)) → q_cuts V d w n = q_cuts V (d + 1) w n := by
  intro n
  induction n with
  | zero => intro _; rfl
  | succ n ih =>
    intro h
    have ih := ih (fun m m0 m1 => h m m0 (by omega))
    have hn := h n (by omega) (by omega)
    show q_step V d w (q_cuts V d w n) n = q_step V (d + 1) w (q_cuts V (d + 1) w n) n
    rw [ih]
    unfold q_step
    by_cases a : v_K V 4 n = 0 ∧ v_K V 0 n = 0 ∧ v_K V 3 n ≤ d
    · rw [if_pos a, if_pos (by omega)]
    · rw [if_neg a, if_neg (show ¬ (v_K V 4 n = 0 ∧ v_K V 0 n = 0 ∧ v_K V 3 n ≤ d + 1) by omega)]
theorem c_gd_l {V : zV} {x : Int} (hV : v_ok V) (hx : 0 ≤ x ∧ x < 2147483648) : ∀ (n f : Nat) (σ : zS), n < f → n ≤ 101 → v_C σ 0 V → (n < 101 → r_C σ (q_cuts V n (v_S V 2) (v_M V).toNat)) → ∃ σ', f_X5_greatestDoubt_l9 f σ x ((n : Int) - 1) = some (q_gd V (v_S V 2) x n, σ') ∧ z_out 48 53 σ σ' := by
  intro n
  have k2 := hV.2.2.2.2.2.2.2.1
  have hM := hV.2.1
  induction n with
  | zero =>
    intro f σ hf hn hC hr
    obtain ⟨f, rfl⟩ : ∃ k, f = k + 1 := ⟨f - 1, by omega⟩
    refine ⟨σ, ?_, z_out_rf⟩
    show f_X5_greatestDoubt_b9 _ σ x _ = _
    unfold f_X5_greatestDoubt_b9
    rw [if_pos (by unfold zr; omega), if_pos (by omega)]
    rfl
  | succ n ih =>
    intro f σ hf hn hC hr
    obtain ⟨f, rfl⟩ : ∃ k, f = k + 1 := ⟨f - 1, by omega⟩
    have s2 := (v_C0 hC).2.2.2.2 2 (by omega) (by omega)
    have hk := q_kok hV n (v_S V 2)
    have hnn := hk.1
    have hfr := q_fr_ok hV n (v_S V 2)
    have hq : q_gd V (v_S V 2) x (n + 1) = if q_fr V n (v_S V 2) ≤ x then (n : Int) else q_gd V (v_S V 2) x n := rfl
    have hB : ∀ υ, v_C υ 0 V → r_C υ (q_cuts V n (v_S V 2) (v_M V).toNat) → z_out 48 53 σ υ → ∃ σ', f_X5_greatestDoubt_b53 (f_X5_greatestDoubt_l9 f) υ x n = some (q_gd V (v_S V 2) x (n + 1), σ') ∧ z_out 48 53 σ σ' := by
      intro υ u1 u2 u3
      have hcf : f_X0_cutFrames υ = some (q_fr V n (v_S V 2), υ) := c_cutFrames u2 (by omega)
      unfold f_X5_greatestDoubt_b53
      rw [hcf, z_bd, if_pos (by unfold zr; omega), hq]
      by_cases e : q_fr V n (v_S V 2) ≤ x
      · exact ⟨υ, by rw [if_neg (by omega), if_pos e], u3⟩
      · obtain ⟨σ', t1, t2⟩ := ih f υ (by omega) (by omega) u1 (fun _ => u2)
        refine ⟨σ', ?_, z_out_tr u3 t2⟩
        rw [if_pos (by omega), if_neg e]
        exact t1
    have hF : ∀ υ, v_C υ 0 V → z_out 48 53 σ υ → ∃ σ', f_X5_greatestDoubt_b32 (f_X5_greatestDoubt_l9 f) υ x n = some (q_gd V (v_S V 2) x (n + 1), σ') ∧ z_out 48 53 σ σ' := by
      intro υ u1 u2
      have s2' := (v_C0 u1).2.2.2.2 2 (by omega) (by omega)
      obtain ⟨φ, p1, p2, p3⟩ := c_find (d := n) (w := v_S V 2) u1 hV (by omega) k2
      unfold f_X5_greatestDoubt_b32
      rw [if_pos (by omega), s2', p1, z_bd]
      exact hB φ (v_C_out u1 p3 (by omega)) p2 (z_out_tr u2 p3)
    rw [show (((n + 1 : Nat) : Int) - 1) = (n : Int) by omega]
    show ∃ σ', f_X5_greatestDoubt_b9 _ σ x n = _ ∧ _
    unfold f_X5_greatestDoubt_b9
    rw [if_pos (by unfold zr; omega), if_neg (by omega), if_pos (by unfold zr; omega)]
    by_cases a : (n : Int) = 100
    · rw [if_pos a]
      exact hF σ hC z_out_rf
    · obtain ⟨r, t1, t2⟩ := c_filler_l (x := (n : Int) + 1) hC hV (by omega) (v_M V).toNat z_fuel 0 (by unfold z_fuel; omega) (by omega) (by omega) (fun m m0 m1 => by omega)
      have t1 : f_X2_hasFillerOfDoubt 0 σ ((n : Int) + 1) = some (r, σ) := t1
      rw [if_neg a, t1, z_bd]
      rcases t2 with rfl | ⟨rfl, t2⟩
      · rw [if_pos (by decide), if_neg (by omega)]
        exact hF σ hC z_out_rf
      · rw [if_pos (by decide), if_pos rfl]
        have hs := q_cuts_same (V := V) (d := n) (w := v_S V 2) (v_M V).toNat (fun m m0 m1 => t2 m m0 (by omega))
        have hr := hr (by omega)
        rw [show ((n + 1 : Nat) : Int) = (n : Int) + 1 by omega, ← hs] at hr
        exact hB σ hC hr z_out_rf
