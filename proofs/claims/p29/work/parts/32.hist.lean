/-! THE HISTORY, OF BOTH -/
theorem c_drop {σ : zS} (h : ∀ i, 0 ≤ i → i < 4 → 1 ≤ σ 61 i ∧ σ 61 i ≤ 4) : ∃ τ, f_X1_dropOldest σ = some ((), τ) ∧ τ 60 1 = 3 ∧ (τ 61 0 = σ 61 1 ∧ τ 61 1 = σ 61 2 ∧ τ 61 2 = σ 61 3 ∧ τ 61 3 = σ 61 0) ∧ z_out 60 61 σ τ := by
  have p0 := h 0 (by omega) (by omega)
  have p1 := h 1 (by omega) (by omega)
  have p2 := h 2 (by omega) (by omega)
  have p3 := h 3 (by omega) (by omega)
  obtain ⟨f, hf⟩ := z_f1 4 (by omega)
  have n1 : (((σ 61 1).toNat : Nat) : Int) = σ 61 1 := by omega
  have n2 : (((σ 61 2).toNat : Nat) : Int) = σ 61 2 := by omega
  have n3 : (((σ 61 3).toNat : Nat) : Int) = σ 61 3 := by omega
  have n0 : (((σ 61 0).toNat : Nat) : Int) = σ 61 0 := by omega
  refine ⟨z_up (z_up (z_up (z_up (z_up σ 61 0 (σ 61 1)) 61 1 (σ 61 2)) 61 2 (σ 61 3)) 61 3 (σ 61 0)) 60 1 3, ?_, z_re, ?_, z_out_up (z_out_up (z_out_up (z_out_up (z_out_up z_out_rf (by omega) (by omega)) (by omega) (by omega)) (by omega) (by omega)) (by omega) (by omega)) (by omega) (by omega)⟩
  · unfold f_X1_dropOldest
    rw [if_pos (by omega), hf]
    show f_X1_dropOldest_b9 (f_X1_dropOldest_l9 (f + 3)) σ _ 1 = _
    unfold f_X1_dropOldest_b9
    rw [if_pos (by unfold zr; omega), if_neg (by omega), if_pos (by omega), if_pos (by omega), z_put, n1, show (1 : Int) - 1 = 0 by omega, show (1 : Int) + 1 = 2 by omega]
    show f_X1_dropOldest_b9 (f_X1_dropOldest_l9 (f + 2)) _ _ 2 = _
    unfold f_X1_dropOldest_b9
    rw [z_ri (by omega)]
    rw [if_pos (by unfold zr; omega), if_neg (by omega), if_pos (by omega), if_pos (by omega), z_put, n2, show (2 : Int) - 1 = 1 by omega, show (2 : Int) + 1 = 3 by omega]
    show f_X1_dropOldest_b9 (f_X1_dropOldest_l9 (f + 1)) _ _ 3 = _
    unfold f_X1_dropOldest_b9
    rw [z_ri (by omega), z_ri (by omega)]
    rw [if_pos (by unfold zr; omega), if_neg (by omega), if_pos (by omega), if_pos (by omega), z_put, n3, show (3 : Int) - 1 = 2 by omega, show (3 : Int) + 1 = 4 by omega]
    show f_X1_dropOldest_b9 (f_X1_dropOldest_l9 f) _ _ 4 = _
    unfold f_X1_dropOldest_b9
    rw [if_pos (by unfold zr; omega), if_pos (by omega), if_pos (by omega), z_put, z_put, n0]
  · refine ⟨?_, ?_, ?_, ?_⟩
    · rw [z_rn (by omega), z_ri (by omega), z_ri (by omega), z_ri (by omega), z_re]
    · rw [z_rn (by omega), z_ri (by omega), z_ri (by omega), z_re]
    · rw [z_rn (by omega), z_ri (by omega), z_re]
    · rw [z_rn (by omega), z_re]
theorem c_keep {σ : zS} {hn : Int} {hs : Int → zV} {V : zV} (hH : c_H σ hn hs) (hok : h_ok hn hs) (hC : v_C σ 0 V) (hV : v_ok V) : ∃ τ, f_X1_keep 0 σ = some ((), τ) ∧ c_H τ (a_keep hn hs V).1 (a_keep hn hs V).2 ∧ z_out 8 61 σ τ := by
  obtain ⟨h0, h5⟩ := hok
  have h1 := hH.1
  unfold f_X1_keep
  rw [h1, if_pos (by unfold zr; omega)]
  by_cases a : hn < 4
  · obtain ⟨τ, t1, t2, t3⟩ := c_keep12 hH (by omega) hC hV
    refine ⟨τ, by rw [if_pos a]; exact t1, ?_, z_out_le t3 (by omega) (by omega)⟩
    unfold a_keep
    rw [if_pos a]
    exact t2
  · obtain ⟨_, h2, h3, h4⟩ := hH
    obtain ⟨υ, u1, u2, ⟨u30, u31, u32, u33⟩, u4⟩ := c_drop h2
    have p0 := h2 0 (by omega) (by omega)
    have p1 := h2 1 (by omega) (by omega)
    have p2 := h2 2 (by omega) (by omega)
    have p3 := h2 3 (by omega) (by omega)
    have hH' : c_H υ 3 (fun i => hs (i + 1)) := by
      refine ⟨u2, fun i i0 i1 => ?_, fun i k i0 i1 k0 k1 hik => ?_, fun i i0 i1 => ?_⟩
      · rcases (show i = 0 ∨ i = 1 ∨ i = 2 ∨ i = 3 by omega) with rfl | rfl | rfl | rfl <;> omega
      · have d01 := h3 0 1 (by omega) (by omega) (by omega) (by omega)
        have d02 := h3 0 2 (by omega) (by omega) (by omega) (by omega)
        have d03 := h3 0 3 (by omega) (by omega) (by omega) (by omega)
        have d12 := h3 1 2 (by omega) (by omega) (by omega) (by omega)
        have d13 := h3 1 3 (by omega) (by omega) (by omega) (by omega)
        have d23 := h3 2 3 (by omega) (by omega) (by omega) (by omega)
        rcases (show i = 0 ∨ i = 1 ∨ i = 2 ∨ i = 3 by omega) with rfl | rfl | rfl | rfl <;> rcases (show k = 0 ∨ k = 1 ∨ k = 2 ∨ k = 3 by omega) with rfl | rfl | rfl | rfl <;> omega
      · have e : υ 61 i = σ 61 (i + 1) := by
          rcases (show i = 0 ∨ i = 1 ∨ i = 2 by omega) with rfl | rfl | rfl
          · exact u30
          · exact u31
          · exact u32
        rw [e]
        have q := h2 (i + 1) (by omega) (by omega)
        exact v_C_out (h4 (i + 1) (by omega) (by omega)) u4 (by omega)
    obtain ⟨τ, t1, t2, t3⟩ := c_keep12 hH' (by omega) (v_C_out hC u4 (by omega)) hV
    refine ⟨τ, by rw [if_neg a, u1, z_bd]; exact t1, ?_, z_out_tr (z_out_le u4 (by omega) (by omega)) (z_out_le t3 (by omega) (by omega))⟩
    unfold a_keep
    rw [if_neg a]
    exact t2
theorem c_restore {σ : zS} {hn : Int} {hs : Int → zV} (hH : c_H σ hn hs) (hok : h_ok hn hs) (h0 : 0 < hn) : ∃ τ, f_X1_restoreLatest 0 σ = some ((), τ) ∧ v_C τ 0 (hs (hn - 1)) ∧ c_H τ (hn - 1) hs ∧ (∀ a, 62 ≤ a → τ a = σ a) := by
  obtain ⟨h9, h5⟩ := hok
  obtain ⟨h1, h2, h3, h4⟩ := hH
  have p := h2 (hn - 1) (by omega) (by omega)
  have e60 : ∀ a, a ≠ 60 → z_up σ 60 1 (hn - 1) a = σ a := fun a ha => by funext b; exact z_rn ha
  obtain ⟨υ, u1, u2, u3⟩ := c_copyAll (j := 0) (k := (σ 61 (hn - 1)).toNat) (σ := z_up σ 60 1 (hn - 1)) (by omega) (v_C_of (h4 (hn - 1) (by omega) (by omega)) (fun a a1 a2 => e60 a (by omega))) (h5 (hn - 1) (by omega) (by omega))
  have o : ∀ a, 8 ≤ a → υ a = z_up σ 60 1 (hn - 1) a := fun a ha => u3 a (by omega)
  refine ⟨υ, ?_, u2, ⟨?_, ?_, ?_, fun i i0 i1 => ?_⟩, fun a ha => ?_⟩
  · unfold f_X1_restoreLatest f_X1_restoreLatest_b30
    rw [h1, if_pos (by unfold zr; omega), if_neg (by omega), z_put, z_re, e60 61 (by omega), if_pos (by omega), u1, z_bd]
  · rw [o 60 (by omega), z_re]
  · rw [o 61 (by omega), e60 61 (by omega)]; exact h2
  · rw [o 61 (by omega), e60 61 (by omega)]; exact h3
  · rw [o 61 (by omega), e60 61 (by omega)]
    have q := h2 i i0 (by omega)
    exact v_C_of (h4 i i0 (by omega)) (fun a a1 a2 => by rw [o a (by omega), e60 a (by omega)])
  · rw [o a (by omega), e60 a (by omega)]
-- the reference's
