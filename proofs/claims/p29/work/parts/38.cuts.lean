/-! ABOUT, CUTS, CUT, SUM -/
abbrev q_C (V : zV) : zL := q_cuts V (v_S V 0) (v_S V 2) (v_M V).toNat
theorem q_kok {V : zV} (hV : v_ok V) (d w : Int) : q_cok V (q_cuts V d w (v_M V).toNat) (v_M V) := by
  have hM := hV.2.1
  have := q_cuts_ok hV (d := d) (w := w) (v_M V).toNat (by omega)
  rw [show (((v_M V).toNat : Nat) : Int) = v_M V by omega] at this
  exact this
theorem c_cur {σ : zS} {V : zV} (hC : v_C σ 0 V) (hV : v_ok V) : ∃ σ', f_X5_currentCuts σ = some ((), σ') ∧ r_C σ' (q_C V) ∧ z_out 48 53 σ σ' := by
  have s0 := (v_C0 hC).2.2.2.2 0 (by omega) (by omega)
  have s2 := (v_C0 hC).2.2.2.2 2 (by omega) (by omega)
  have k0 := hV.2.2.2.2.2.1
  have k2 := hV.2.2.2.2.2.2.2.1
  obtain ⟨σ', t1, t2, t3⟩ := c_find hC hV k0 k2
  refine ⟨σ', ?_, t2, t3⟩
  unfold f_X5_currentCuts
  rw [if_pos (by omega), if_pos (by omega), s0, s2, t1, z_bd]
theorem a_C48 {σ σ' : zS} {A : zA} (hA : a_ok A) (hC : a_C σ A) (h : z_out 48 53 σ σ') : a_C σ' A := a_C_of hA hC (fun a ha => h a (by omega))
theorem c_num {σ : zS} {V : zV} {m c : Int} (hC : v_C σ 0 V) (hV : v_ok V) (m0 : 0 ≤ m) (m1 : m < v_M V) (hc : 0 ≤ c ∧ c ≤ 4) : f_X2_numberOfMark 0 σ m c = some (v_K V c m, σ) := by
  have hM := hV.2.1
  have h := c_hasMark hC hV (x := m) (by unfold zr; omega)
  have hk := hV.2.2.2.1 m m0 m1
  unfold v_mok at hk
  obtain ⟨e0, e1, e2, e3, e4⟩ := (v_C0 hC).2.2.2.1 m m0 m1
  unfold f_X2_numberOfMark f_X2_numberOfMark_b86
  simp only [Nat.mul_zero, Nat.zero_add]
  rw [h, z_bd, if_pos (show 0 ≤ m ∧ m < v_M V from ⟨m0, m1⟩), if_pos (by decide), if_pos (by omega), if_pos (by unfold zr; omega)]
  rcases (show c = 0 ∨ c = 1 ∨ c = 2 ∨ c = 3 ∨ c = 4 by omega) with rfl | rfl | rfl | rfl | rfl
  · rw [if_pos rfl, if_pos (by omega), e0]
  · rw [if_neg (by omega), if_pos rfl, if_pos (by omega), e1]
  · rw [if_neg (by omega), if_neg (by omega), if_pos rfl, if_pos (by omega), e2]
  · rw [if_neg (by omega), if_neg (by omega), if_neg (by omega), if_pos rfl, if_pos (by omega), e3]
  · rw [if_neg (by omega), if_neg (by omega), if_neg (by omega), if_neg (by omega), if_pos rfl, if_pos (by omega), e4, if_pos (by unfold zr; omega)]
    by_cases a : v_K V 4 m = 0
    · rw [if_pos a, a]
    · rw [if_neg a, show v_K V 4 m = 1 by omega]
theorem c_numCut {σ : zS} {V : zV} {s : zL} {k x c : Int} (hs : r_C σ s) (hk : q_cok V s k) (hk2 : k ≤ 20) (hx : 0 ≤ x ∧ x < s.1) (hc : 0 ≤ c ∧ c ≤ 4) : f_X0_numberOfCut σ x c = some (s.2 c x, σ) := by
  have hn := hk.1
  have h5 := hs.1
  obtain ⟨e0, e1, e2, e3, e4⟩ := hs.2 x hx.1 hx.2
  have h3 := (hk.2.1 x hx.1 hx.2).2.2.1
  unfold f_X0_numberOfCut f_X0_numberOfCut_b83
  rw [if_pos (by unfold zr; omega), if_neg (by omega), h5, if_pos (by unfold zr; omega), if_pos (by omega), if_pos (by unfold zr; omega)]
  rcases (show c = 0 ∨ c = 1 ∨ c = 2 ∨ c = 3 ∨ c = 4 by omega) with rfl | rfl | rfl | rfl | rfl
  · rw [if_pos rfl, if_pos (by omega), e0]
  · rw [if_neg (by omega), if_pos rfl, if_pos (by omega), e1]
  · rw [if_neg (by omega), if_neg (by omega), if_pos rfl, if_pos (by omega), e2]
  · rw [if_neg (by omega), if_neg (by omega), if_neg (by omega), if_pos rfl, if_pos (by omega), e3, if_pos (by unfold zr; omega)]
    by_cases a : s.2 3 x = 0
    · rw [if_pos a, a]
    · rw [if_neg a, show s.2 3 x = 1 by omega]
  · rw [if_neg (by omega), if_neg (by omega), if_neg (by omega), if_neg (by omega), if_pos rfl, if_pos (by omega), e4]
