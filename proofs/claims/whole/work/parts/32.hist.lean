/-! THE HISTORY, OF BOTH -/
theorem c_drop {σ : zS} (h : ∀ i, 0 ≤ i → i < 4 → 1 ≤ σ 61 i ∧ σ 61 i ≤ 4) : ∃ τ, f_X1_dropOldest σ = some ((), τ) ∧ τ 60 1 = 3 ∧ (τ 61 0 = σ 61 1 ∧ τ 61 1 = σ 61 2 ∧ τ 61 2 = σ 61 3 ∧ τ 61 3 = σ 61 0) ∧ z_out 60 61 σ τ := by
  have p0 := h 0 (by omega) (by omega)
  have p1 := h 1 (by omega) (by omega)
  have p2 := h 2 (by omega) (by omega)
  have p3 := h 3 (by omega) (by omega)
  obtain ⟨f, hf⟩ := z_f1 4 (by omega)
  have n1 : (((σ 61 1).toNat : Nat) : Int) = σ 61 1 := by omega
  have n2 : (((σ 61 2).toNat : Nat) : Int) = σ 61 2 := by omega
  have n3 : (((σ 61 3).toNat : Nat) : Int) = σ 61 3 := by omega
  have n0 : (((σ 61 0).toNat : Nat) : Int) = σ 61 0 := by omega
  refine ⟨z_up (z_up (z_up (z_up (z_up σ 61 0 (σ 61 1)) 61 1 (σ 61 2)) 61 2 (σ 61 3)) 61 3 (σ 61 0)) 60 1 3, ?_, z_re, ?_, z_out_up (z_out_up (z_out_up (z_out_up (z_out_up z_out_rf (by omega) (by omega)) (by omega) (by omega)) (by omega) (by omega)) (by omega) (by omega)) (by omega) (by omega)⟩
  · unfold f_X1_dropOldest
    rw [if_pos (by omega), hf]
    show f_X1_dropOldest_b9 (f_X1_dropOldest_l9 (f + 3)) σ _ 1 = _
    unfold f_X1_dropOldest_b9
    rw [if_pos (by unfold zr; omega), if_neg (by omega), if_pos (by omega), if_pos (by omega), z_put, n1, show (1 : Int) - 1 = 0 by omega, show (1 : Int) + 1 = 2 by omega]
    show f_X1_dropOldest_b9 (f_X1_dropOldest_l9 (f + 2)) _ _ 2 = _
    unfold f_X1_dropOldest_b9
    rw [z_ri (by omega)]
    rw [if_pos (by unfold zr; omega), if_neg (by omega), if_pos (by omega), if_pos (by omega), z_put, n2, show (2 : Int) - 1 = 1 by omega, show (2 : Int) + 1 = 3 by omega]
    show f_X1_dropOldest_b9 (f_X1_dropOldest_l9 (f + 1)) _ _ 3 = _
    unfold f_X1_dropOldest_b9
    rw [z_ri (by omega), z_ri (by omega)]
    rw [if_pos (by unfold zr; omega), if_neg (by omega), if_pos (by omega), if_pos (by omega), z_put, n3, show (3 : Int) - 1 = 2 by omega, show (3 : Int) + 1 = 4 by omega]
    show f_X1_dropOldest_b9 (f_X1_dropOldest_l9 f) _ _ 4 = _
    unfold f_X1_dropOldest_b9
    rw [if_pos (by unfold zr; omega), if_pos (by omega), if_pos (by omega), z_put, z_put, n0]
  · refine ⟨?_, ?_, ?_, ?_⟩
    · rw [z_rn (by omega), z_ri (by omega), z_ri (by omega), z_ri (by omega), z_re]
    · rw [z_rn (by omega), z_ri (by omega), z_ri (by omega), z_re]
    · rw [z_rn (by omega), z_ri (by omega), z_re]
    · rw [z_rn (by omega), z_re]
theorem c_keep {σ : zS} {hn : Int} {hs : Int → zV} {V : zV} (hH : c_H σ hn hs) (hok : h_ok hn hs) (hC : v_C σ 0 V) (hV : v_ok V) : ∃ τ, f_X1_keep 0 σ = some ((), τ) ∧ c_H τ (a_keep hn hs V).1 (a_keep hn hs V).2 ∧ z_out 8 61 σ τ := by
  obtain ⟨h0, h5⟩ := hok
  have h1 := hH.1
  unfold f_X1_keep
  rw [h1, if_pos (by unfold zr; omega)]
  by_cases a : hn < 4
  · obtain ⟨τ, t1, t2, t3⟩ := c_keep12 hH (by omega) hC hV
    refine ⟨τ, by rw [if_pos a]; exact t1, ?_, z_out_le t3 (by omega) (by omega)⟩
    unfold a_keep
    rw [if_pos a]
    exact t2
  · obtain ⟨_, h2, h3, h4⟩ := hH
    obtain ⟨υ, u1, u2, ⟨u30, u31, u32, u33⟩, u4⟩ := c_drop h2
    have p0 := h2 0 (by omega) (by omega)
    have p1 := h2 1 (by omega) (by omega)
    have p2 := h2 2 (by omega) (by omega)
    have p3 := h2 3 (by omega) (by omega)
    have hH' : c_H υ 3 (fun i => hs (i + 1)) := by
      refine ⟨u2, fun i i0 i1 => ?_, fun i k i0 i1 k0 k1 hik => ?_, fun i i0 i1 => ?_⟩
      · rcases (show i = 0 ∨ i = 1 ∨ i = 2 ∨ i = 3 by omega) with rfl | rfl | rfl | rfl <;> omega
      · have d01 := h3 0 1 (by omega) (by omega) (by omega) (by omega)
        have d02 := h3 0 2 (by omega) (by omega) (by omega) (by omega)
        have d03 := h3 0 3 (by omega) (by omega) (by omega) (by omega)
        have d12 := h3 1 2 (by omega) (by omega) (by omega) (by omega)
        have d13 := h3 1 3 (by omega) (by omega) (by omega) (by omega)
        have d23 := h3 2 3 (by omega) (by omega) (by omega) (by omega)
        rcases (show i = 0 ∨ i = 1 ∨ i = 2 ∨ i = 3 by omega) with rfl | rfl | rfl | rfl <;> rcases (show k = 0 ∨ k = 1 ∨ k = 2 ∨ k = 3 by omega) with rfl | rfl | rfl | rfl <;> omega
      · have e : υ 61 i = σ 61 (i + 1) := by
          rcases (show i = 0 ∨ i = 1 ∨ i = 2 by omega) with rfl | rfl | rfl
          · exact u30
          · exact u31
          · exact u32
        rw [e]
        have q := h2 (i + 1) (by omega) (by omega)
        exact v_C_out (h4 (i + 1) (by omega) (by omega)) u4 (by omega)
    obtain ⟨τ, t1, t2, t3⟩ := c_keep12 hH' (by omega) (v_C_out hC u4 (by omega)) hV
    refine ⟨τ, by rw [if_neg a, u1, z_bd]; exact t1, ?_, z_out_tr (z_out_le u4 (by omega) (by omega)) (z_out_le t3 (by omega) (by omega))⟩
    unfold a_keep
    rw [if_neg a]
    exact t2
theorem c_restore {σ : zS} {hn : Int} {hs : Int → zV} (hH : c_H σ hn hs) (hok : h_ok hn hs) (h0 : 0 < hn) : ∃ τ, f_X1_restoreLatest 0 σ = some ((), τ) ∧ v_C τ 0 (hs (hn - 1)) ∧ c_H τ (hn - 1) hs ∧ (∀ a, 62 ≤ a → τ a = σ a) := by
  obtain ⟨h9, h5⟩ := hok
  obtain ⟨h1, h2, h3, h4⟩ := hH
  have p := h2 (hn - 1) (by omega) (by omega)
  have e60 : ∀ a, a ≠ 60 → z_up σ 60 1 (hn - 1) a = σ a := fun a ha => by funext b; exact z_rn ha
  obtain ⟨υ, u1, u2, u3⟩ := c_copyAll (j := 0) (k := (σ 61 (hn - 1)).toNat) (σ := z_up σ 60 1 (hn - 1)) (by omega) (v_C_of (h4 (hn - 1) (by omega) (by omega)) (fun a a1 a2 => e60 a (by omega))) (h5 (hn - 1) (by omega) (by omega))
  have o : ∀ a, 8 ≤ a → υ a = z_up σ 60 1 (hn - 1) a := fun a ha => u3 a (by omega)
  refine ⟨υ, ?_, u2, ⟨?_, ?_, ?_, fun i i0 i1 => ?_⟩, fun a ha => ?_⟩
  · unfold f_X1_restoreLatest f_X1_restoreLatest_b30
    rw [h1, if_pos (by unfold zr; omega), if_neg (by omega), z_put, z_re, e60 61 (by omega), if_pos (by omega), u1, z_bd]
  · rw [o 60 (by omega), z_re]
  · rw [o 61 (by omega), e60 61 (by omega)]; exact h2
  · rw [o 61 (by omega), e60 61 (by omega)]; exact h3
  · rw [o 61 (by omega), e60 61 (by omega)]
    have q := h2 i i0 (by omega)
    exact v_C_of (h4 i i0 (by omega)) (fun a a1 a2 => by rw [o a (by omega), e60 a (by omega)])
  · rw [o a (by omega), e60 a (by omega)]
-- the reference's
theorem v_R_of {f g : Int → Int} {V : zV} (hV : v_ok V) (h : v_R f V) (he : ∀ x, 0 ≤ x → x < 320 → g x = f x) : v_R g V := by
  have hF := hV.1
  have hM := hV.2.1
  obtain ⟨h1, h2, h3, h4, h5⟩ := h
  refine ⟨by rw [he 7 (by omega) (by omega)]; exact h1, by rw [he 8 (by omega) (by omega)]; exact h2, fun i i0 i1 => by rw [he (10 + i) (by omega) (by omega)]; exact h3 i i0 i1, fun m m0 m1 => ?_, fun i i0 i1 => by rw [he i (by omega) (by omega)]; exact h5 i i0 i1⟩
  rw [he (210 + 5 * m) (by omega) (by omega), he (210 + 5 * m + 1) (by omega) (by omega), he (210 + 5 * m + 2) (by omega) (by omega), he (210 + 5 * m + 3) (by omega) (by omega), he (210 + 5 * m + 4) (by omega) (by omega)]
  exact h4 m m0 m1
def m_H (τ : zS) (hn : Int) (hs : Int → zV) : Prop := τ 0 2 = hn ∧ ∀ i, 0 ≤ i → i < hn → v_R (fun x => τ 2 (320 * i + x)) (hs i)
abbrev p_H (a : Nat) (b : Int) : Prop := a = 2 ∨ (a = 0 ∧ b = 2)
theorem m_act51 {pm : Int} (hp : 0 ≤ pm ∧ pm ≤ 3) : ∀ (n f : Nat) (x : Int) (σ : zS), n < f → 0 ≤ x → x + n = 320 → σ 0 2 = pm → ∃ τ, f_X6_act_l51 f σ x = some ((), τ) ∧ τ 0 2 = pm + 1 ∧ (∀ y, 320 * pm + x ≤ y → y < 320 * pm + 320 → τ 2 y = σ 1 (y - 320 * pm)) ∧ (∀ y, y < 320 * pm + x ∨ 320 * pm + 320 ≤ y → τ 2 y = σ 2 y) ∧ z_ex p_H σ τ := by
  intro n
  induction n with
  | zero =>
    intro f x σ hf x0 hx h2
    obtain ⟨f, rfl⟩ : ∃ k, f = k + 1 := ⟨f - 1, by omega⟩
    refine ⟨z_up σ 0 2 (pm + 1), ?_, z_re, fun y y0 y1 => by omega, fun y hy => z_rn (by omega), z_ex_up z_ex_rf (by omega)⟩
    unfold f_X6_act_l51 f_X6_act_b51
    rw [h2, if_pos (by unfold zr; omega), if_pos (by omega), z_put]
  | succ n ih =>
    intro f x σ hf x0 hx h2
    obtain ⟨f, rfl⟩ : ∃ k, f = k + 1 := ⟨f - 1, by omega⟩
    obtain ⟨τ, t1, t2, t3, t4, t5⟩ := ih f (x + 1) (z_up σ 2 (320 * pm + x) (σ 1 x)) (by omega) (by omega) (by omega) (by rw [z_rn (by omega)]; exact h2)
    refine ⟨τ, ?_, t2, fun y y0 y1 => ?_, fun y hy => ?_, z_ex_tr (z_ex_up z_ex_rf (by omega)) t5⟩
    · unfold f_X6_act_l51 f_X6_act_b51
      rw [h2, if_pos (by unfold zr; omega), if_neg (by omega), if_pos (by omega), if_pos (by omega), z_put]
      exact t1
    · by_cases e : y = 320 * pm + x
      · rw [t4 y (by omega), e, z_re]
        exact congrArg (σ 1) (by omega)
      · rw [t3 y (by omega) y1, z_rn (by omega)]
    · rw [t4 y (by omega), z_ri (by omega)]
theorem m_act10 : ∀ (n f : Nat) (x : Int) (σ : zS), n < f → 0 ≤ x → x + n = 960 → ∃ υ, f_X6_act_l10 f σ x = f_X6_act_b49 υ ∧ υ 0 2 = σ 0 2 - 1 ∧ (∀ y, x ≤ y → y < 960 → υ 2 y = σ 2 (y + 320)) ∧ (∀ y, y < x → υ 2 y = σ 2 y) ∧ z_ex p_H σ υ := by
  intro n
  induction n with
  | zero =>
    intro f x σ hf x0 hx
    obtain ⟨f, rfl⟩ : ∃ k, f = k + 1 := ⟨f - 1, by omega⟩
    refine ⟨z_up σ 0 2 (σ 0 2 - 1), ?_, z_re, fun y y0 y1 => by omega, fun y _ => z_rn (by omega), z_ex_up z_ex_rf (by omega)⟩
    unfold f_X6_act_l10 f_X6_act_b10
    rw [if_pos (by unfold zr; omega), if_pos (by omega), z_put]
  | succ n ih =>
    intro f x σ hf x0 hx
    obtain ⟨f, rfl⟩ : ∃ k, f = k + 1 := ⟨f - 1, by omega⟩
    obtain ⟨υ, u1, u2, u3, u5, u4⟩ := ih f (x + 1) (z_up σ 2 x (σ 2 (x + 320))) (by omega) (by omega) (by omega)
    have hun : υ 2 x = σ 2 (x + 320) := by rw [u5 x (by omega), z_re]
    refine ⟨υ, ?_, by rw [u2, z_rn (by omega)], fun y y0 y1 => ?_, fun y hy => by rw [u5 y (by omega), z_ri (by omega)], z_ex_tr (z_ex_up z_ex_rf (by omega)) u4⟩
    · unfold f_X6_act_l10 f_X6_act_b10
      rw [if_pos (by unfold zr; omega), if_neg (by omega), if_pos (by omega), if_pos (by omega), z_put]
      exact u1
    · by_cases e : y = x
      · rw [e]; exact hun
      · rw [u3 y (by omega) y1, z_ri (by omega)]
theorem m_act {σ : zS} {hn : Int} {hs : Int → zV} {V : zV} (hH : m_H σ hn hs) (hok : h_ok hn hs) (hR : v_R (σ 1) V) (hV : v_ok V) : ∃ τ, f_X6_act σ = some ((), τ) ∧ m_H τ (a_keep hn hs V).1 (a_keep hn hs V).2 ∧ z_ex p_H σ τ := by
  obtain ⟨h0, h5⟩ := hok
  obtain ⟨h2, h4⟩ := hH
  unfold f_X6_act
  rw [h2, if_pos (by unfold zr; omega)]
  by_cases a : hn < 4
  · obtain ⟨τ, t1, t2, t3, t4, t5⟩ := m_act51 (pm := hn) (by omega) 320 z_fuel 0 σ (by unfold z_fuel; omega) (by omega) (by omega) h2
    refine ⟨τ, by rw [if_pos (by omega)]; exact t1, ?_, t5⟩
    unfold a_keep
    rw [if_pos a]
    refine ⟨t2, fun i i0 i1 => ?_⟩
    have i1 : i < hn + 1 := i1
    show v_R _ (if i = hn then V else hs i)
    by_cases e : i = hn
    · rw [if_pos e]
      refine v_R_of hV hR (fun x x0 x1 => ?_)
      show τ 2 (320 * i + x) = _
      rw [t3 _ (by omega) (by omega), e]
      exact congrArg (σ 1) (by omega)
    · rw [if_neg e]
      refine v_R_of (h5 i i0 (by omega)) (h4 i i0 (by omega)) (fun x x0 x1 => ?_)
      show τ 2 (320 * i + x) = _
      rw [t4 _ (by omega)]
  · obtain ⟨υ, u1, u2, u3, u5, u4⟩ := m_act10 960 z_fuel 0 σ (by unfold z_fuel; omega) (by omega) (by omega)
    obtain ⟨τ, t1, t2, t3, t4, t5⟩ := m_act51 (pm := 3) (by omega) 320 z_fuel 0 υ (by unfold z_fuel; omega) (by omega) (by omega) (by rw [u2, h2]; omega)
    have hυ1 : υ 1 = σ 1 := z_ex_row u4 (by omega)
    refine ⟨τ, by rw [if_neg (by omega)]; exact u1.trans t1, ?_, z_ex_tr u4 t5⟩
    unfold a_keep
    rw [if_neg a]
    refine ⟨by rw [t2]; rfl, fun i i0 i1 => ?_⟩
    have i1 : i < 4 := i1
    show v_R _ (if i = 3 then V else hs (i + 1))
    by_cases e : i = 3
    · rw [if_pos e]
      refine v_R_of hV hR (fun x x0 x1 => ?_)
      show τ 2 (320 * i + x) = _
      rw [t3 _ (by omega) (by omega), e, hυ1]
      exact congrArg (σ 1) (by omega)
    · rw [if_neg e]
      refine v_R_of (h5 (i + 1) (by omega) (by omega)) (h4 (i + 1) (by omega) (by omega)) (fun x x0 x1 => ?_)
      show τ 2 (320 * i + x) = _
      rw [t4 _ (by omega), u3 _ (by omega) (by omega)]
      exact congrArg (σ 2) (by omega)
theorem m_undo22 {pm : Int} (hp : 0 ≤ pm ∧ pm ≤ 3) : ∀ (n f : Nat) (x : Int) (σ : zS), n < f → 0 ≤ x → x + n = 320 → σ 0 2 = pm → ∃ τ, f_X6_undo_l22 f σ x = some (pm, τ) ∧ (∀ y, x ≤ y → y < 320 → τ 1 y = σ 2 (320 * pm + y)) ∧ (∀ y, y < x → τ 1 y = σ 1 y) ∧ z_ex (fun a _ => a = 1) σ τ := by
  intro n
  induction n with
  | zero =>
    intro f x σ hf x0 hx h2
    obtain ⟨f, rfl⟩ : ∃ k, f = k + 1 := ⟨f - 1, by omega⟩
    refine ⟨σ, ?_, fun y y0 y1 => by omega, fun y _ => rfl, z_ex_rf⟩
    unfold f_X6_undo_l22 f_X6_undo_b22
    rw [h2, if_pos (by unfold zr; omega), if_pos (by omega)]
  | succ n ih =>
    intro f x σ hf x0 hx h2
    obtain ⟨f, rfl⟩ : ∃ k, f = k + 1 := ⟨f - 1, by omega⟩
    obtain ⟨τ, t1, t2, t3, t4⟩ := ih f (x + 1) (z_up σ 1 x (σ 2 (320 * pm + x))) (by omega) (by omega) (by omega) (by rw [z_rn (by omega)]; exact h2)
    refine ⟨τ, ?_, fun y y0 y1 => ?_, fun y hy => ?_, z_ex_tr (z_ex_up z_ex_rf rfl) t4⟩
    · unfold f_X6_undo_l22 f_X6_undo_b22
      rw [h2, if_pos (by unfold zr; omega), if_neg (by omega), if_pos (by omega), if_pos (by omega), z_put]
      exact t1
    · by_cases e : y = x
      · rw [t3 y (by omega), e, z_re]
      · rw [t2 y (by omega) y1, z_rn (by omega)]
    · rw [t3 y (by omega), z_ri (by omega)]
theorem m_undo {σ : zS} {hn : Int} {hs : Int → zV} (hH : m_H σ hn hs) (hok : h_ok hn hs) (h0 : 0 < hn) : ∃ τ, f_X6_undo σ = some (hn - 1, τ) ∧ v_R (τ 1) (hs (hn - 1)) ∧ m_H τ (hn - 1) hs ∧ z_ex (fun a b => a = 1 ∨ (a = 0 ∧ b = 2)) σ τ := by
  obtain ⟨h9, h5⟩ := hok
  obtain ⟨h2, h4⟩ := hH
  obtain ⟨τ, t1, t2, t3, t4⟩ := m_undo22 (pm := hn - 1) (by omega) 320 z_fuel 0 (z_up σ 0 2 (hn - 1)) (by unfold z_fuel; omega) (by omega) (by omega) z_re
  have e2 : τ 2 = σ 2 := by
    rw [z_ex_row t4 (by omega)]; funext b; exact z_rn (by omega)
  refine ⟨τ, ?_, ?_, ⟨?_, fun i i0 i1 => ?_⟩, z_ex_tr (z_ex_up z_ex_rf (by omega)) (z_ex_le t4 (fun a b h => Or.inl h))⟩
  · unfold f_X6_undo
    rw [h2, if_pos (by unfold zr; omega), if_pos (by omega), z_put]
    exact t1
  · refine v_R_of (h5 (hn - 1) (by omega) (by omega)) (h4 (hn - 1) (by omega) (by omega)) (fun x x0 x1 => ?_)
    rw [t2 x x0 x1, z_rn (by omega)]
  · rw [t4 0 2 (by omega), z_re]
  · have := h4 i i0 (by omega)
    rw [e2]
    exact this
