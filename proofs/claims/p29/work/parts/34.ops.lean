/-! BABBLE, SETTING, LEVEL, HOLD, UNMARK -/
theorem z_us (x : Int) : 0 ≤ z_ushr x 16 ∧ z_ushr x 16 < 65536 := by
  unfold z_ushr
  show 0 ≤ (x % 4294967296) / ((65536 : Nat) : Int) ∧ (x % 4294967296) / ((65536 : Nat) : Int) < 65536
  omega
theorem z_us10 (x : Int) : 0 ≤ (z_ushr x 16).tmod 10 ∧ (z_ushr x 16).tmod 10 ≤ 9 := by
  have := z_us x
  rw [Int.tmod_eq_emod_of_nonneg this.1]
  omega
theorem c_setting {σ : zS} {V : zV} {x : Int} (hC : v_C σ 0 V) (hx : zr x) : f_X5_setting σ x = some (if 0 ≤ x ∧ x < 7 then v_S V x else if x = 7 then v_F V else if x = 8 then v_M V else -1, σ) := by
  have hx' := hx
  unfold zr at hx'
  obtain ⟨h1, h2, h3, h4, h5⟩ := v_C0 hC
  unfold f_X5_setting f_X5_setting_b10 f_X5_setting_b51
  rw [if_pos hx]
  by_cases a : x < 0
  · rw [if_pos a, if_neg (by omega), if_neg (by omega), if_neg (by omega)]
  · rw [if_neg a, if_pos hx]
    by_cases b : x ≤ 8
    · rw [if_pos b, if_pos hx]
      by_cases c : x < 7
      · rw [if_neg (by omega), if_pos (by omega), if_pos (by omega), h5 x (by omega) c]
      · rw [if_pos (by omega), if_pos hx, if_neg (show ¬ (0 ≤ x ∧ x < 7) by omega)]
        by_cases d : x = 7
        · rw [if_neg (by omega), if_pos d, h1]
        · rw [if_pos d, if_neg d, if_pos (by omega), h2]
    · rw [if_neg b, if_neg (by omega), if_neg (by omega), if_neg (by omega)]
theorem c_hasFrame {j : Nat} {σ : zS} {V : zV} {x : Int} (hC : v_C σ j V) (hV : v_ok V) (hx : zr x) : f_X2_hasFrame j σ x = some (if 0 ≤ x ∧ x < v_F V then 1 else 0, σ) := by
  have hx' := hx
  unfold zr at hx'
  have h1 := hC.1
  have hF := hV.1
  unfold f_X2_hasFrame f_X2_hasFrame_b16 f_X2_hasFrame_b17
  rw [if_pos hx]
  by_cases a : x < 0
  · rw [if_pos a, if_neg (show ¬ (0 ≤ x ∧ x < v_F V) by omega), if_pos (by omega)]
  · rw [if_neg a, h1, if_pos (by unfold zr; omega)]
    by_cases b : v_F V ≤ x
    · rw [if_pos b, if_neg (show ¬ (0 ≤ x ∧ x < v_F V) by omega), if_pos (by omega)]
    · rw [if_neg b, if_pos (show 0 ≤ x ∧ x < v_F V by omega), if_pos (by omega)]
-- a mark held, or not any more
def v_hold (V : zV) (m on : Int) : zV := (v_F V, v_M V, v_L V, fun c i => if c = 4 ∧ i = m then on else v_K V c i, v_S V)
theorem v_hold_K {V : zV} {m on c i : Int} : v_K (v_hold V m on) c i = if c = 4 ∧ i = m then on else v_K V c i := rfl
theorem v_hold_ne {V : zV} {m on c i : Int} (h : c ≠ 4) : v_K (v_hold V m on) c i = v_K V c i := by rw [v_hold_K, if_neg (fun e => h e.1)]
theorem v_hold_ok {V : zV} {m on : Int} (h : v_ok V) (ho : 0 ≤ on ∧ on ≤ 1) : v_ok (v_hold V m on) := by
  obtain ⟨h1, h2, h3, h4, h5, h6⟩ := h
  refine ⟨h1, h2, h3, fun i i0 i1 => ?_, fun i i0 i1 => ?_, h6⟩
  · have h := h4 i i0 i1
    unfold v_mok at *
    rw [v_hold_ne (by omega), v_hold_ne (by omega), v_hold_ne (by omega), v_hold_ne (by omega), v_hold_K]
    refine ⟨h.1, h.2.1, h.2.2.1, ?_⟩
    by_cases e : (4 : Int) = 4 ∧ i = m
    · rw [if_pos e]; exact ho
    · rw [if_neg e]; exact h.2.2.2
  · have h := h5 i i0 i1
    rw [v_hold_ne (by omega), v_hold_ne (by omega)]
    exact h
