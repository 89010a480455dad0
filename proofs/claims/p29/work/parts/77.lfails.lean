/-! THE LAW'S CALLS THAT FAIL -/
theorem L_fails399 {A : zA} {σ : zS} (hA : a_ok A) (hC : a_C σ A) : s_to (f_L_fails_b399 σ (q_pr (a_V A))) 1 A := by
  obtain ⟨σ1, u1, C1⟩ := s_print hA hC
  refine ⟨σ1, ?_, C1⟩
  unfold f_L_fails_b399 f_L_fails_b413
  rw [u1, z_bd, if_pos rfl, if_pos (by decide), if_neg (by omega), if_pos (by omega)]
theorem L_fails351 {A : zA} {σ : zS} (hA : a_ok A) (hC : a_C σ A) : ∃ A', a_ok A' ∧ a_V A' = a_V A ∧ s_to (f_L_fails_b351 σ (q_pr (a_V A)) (v_F (a_V A)) 1) 1 A' := by
  have hV := hA.2.1
  have hF := hV.1
  unfold f_L_fails_b351
  rw [if_pos (by decide), if_neg (by omega), if_pos (by unfold zr; omega)]
  by_cases a : v_F (a_V A) = 200
  · rw [if_pos a]
    unfold f_L_fails_b388
    rw [if_pos (by unfold zr; omega), if_pos (by omega)]
    exact ⟨A, hA, rfl, L_fails399 hA hC⟩
  · rw [if_neg a]
    by_cases b : v_F (a_V A) = 0
    · obtain ⟨V', ⟨e1, e2, e3, e4⟩, o1, σ1, u1, C1⟩ := s_append (x := 1) (y := 200) hA hC (by omega) (by omega) (by omega)
      have hA1 := a_act_ok hA o1
      obtain ⟨t1, t2⟩ := a_un_act hA V'
      have hA2 := a_un_ok hA1 t1
      obtain ⟨σ2, u2, C2⟩ := s_undo hA1 C1 t1
      have t3 := hA1.2.2.1
      have h := L_fails399 hA2 C2
      rw [t2] at h
      rw [u1, z_bd, if_pos (by unfold zr; omega), if_neg (by omega)]
      unfold f_L_fails_b385 f_L_fails_b388
      rw [if_pos (by unfold zr; omega), if_neg (by omega), if_pos (by unfold zr; omega), if_neg (by omega), u2, z_bd, if_pos (by unfold zr; omega), if_neg (by omega)]
      exact ⟨_, hA2, t2, h⟩
    · rw [s_appendFull hA hC (by omega) (by omega) (by omega), z_bd, if_pos (by unfold zr; omega), if_pos b]
      unfold f_L_fails_b385 f_L_fails_b388
      rw [if_pos (by decide), if_neg (by omega), if_pos (by unfold zr; omega), if_pos (by omega)]
      exact ⟨A, hA, rfl, L_fails399 hA hC⟩
theorem L_fails185 {A : zA} {σ : zS} (hA : a_ok A) (hC : a_C σ A) : ∃ A', a_ok A' ∧ a_V A' = a_V A ∧ s_to (f_L_fails_b185 σ (q_pr (a_V A)) (v_F (a_V A)) (v_M (a_V A)) 1) 1 A' := by
  have hV := hA.2.1
  have hF := hV.1
  have hM := hV.2.1
  have hk : q_cok (a_V A) (q_C (a_V A)) (v_M (a_V A)) := q_kok hV _ _
  have hn := hk.1
  have hr := (q_Pok hV).1
  have zM : zr (v_M (a_V A)) := by unfold zr; omega
  have zF : zr (v_F (a_V A)) := by unfold zr; omega
  have b1 := fun (σ : zS) => s_setBad (σ := σ) (x := 2) (y := 21) (by decide) (by decide) (by decide)
  have b2 := fun (σ : zS) => s_setBad (σ := σ) (x := 5) (y := 51) (by decide) (by decide) (by decide)
  have b3 := s_settingBad hC
  have b4 := s_aboutBad (m := v_M (a_V A)) (c := 0) hA hC zM (by omega)
  have b5 := s_levelBad (x := v_F (a_V A)) hA hC zF (by omega)
  have b6 := s_levelBad (x := -1) hA hC (by decide) (by omega)
  obtain ⟨σ1, u1, C1⟩ := s_cuts hA hC
  obtain ⟨σ2, u2, C2⟩ := s_cutBad (x := (q_C (a_V A)).1) (c := 0) hA C1 (by unfold zr; omega) (by decide) (by omega)
  obtain ⟨σ3, u3, C3⟩ := s_cutBad (x := 0) (c := 5) hA C2 (by decide) (by decide) (by omega)
  obtain ⟨σ4, u4, C4⟩ := s_sumBad hA C3
  have b7 := fun (σ : zS) => s_doubtBad (σ := σ) (x := -1) (by decide) (by decide)
  obtain ⟨σ5, u5, C5⟩ := s_length hA C4
  obtain ⟨σ6, u6, C6⟩ := s_heardBad (x := (q_P (a_V A)).1) (c := 0) hA C5 (by unfold zr; omega) (by decide) (by omega)
  obtain ⟨σ7, u7, C7⟩ := s_heardBad (x := 0) (c := 2) hA C6 (by decide) (by decide) (by omega)
  have b8 := s_whereBad (x := v_F (a_V A)) hA C7 zF (by omega)
  have b9 := fun (σ : zS) => s_clicksBad (σ := σ) (x := 10) (by decide) (by decide)
  have b10 := fun (σ : zS) => s_typeBad (σ := σ) (x := 31) (by decide) (by decide)
  have h := L_fails351 hA C7
  unfold f_L_fails_b185
  rw [if_pos (by decide), if_neg (by omega), b1, z_bd, if_pos (by decide), if_neg (by omega), b2, z_bd, if_pos (by decide), if_neg (by omega), b3, z_bd, if_pos (by decide), if_neg (by omega), b4, z_bd, if_pos (by decide), if_neg (by omega), b5, z_bd, if_pos (by decide), if_neg (by omega), b6, z_bd, if_pos (by decide), if_neg (by omega)]
  rw [u1, z_bd, u2, z_bd, if_pos (by decide), if_neg (by omega), u3, z_bd, if_pos (by decide), if_neg (by omega), u4, z_bd, if_pos (by decide), if_neg (by omega), b7, z_bd, if_pos (by decide), if_neg (by omega), u5, z_bd, u6, z_bd, if_pos (by decide), if_neg (by omega), u7, z_bd, if_pos (by decide), if_neg (by omega), b8, z_bd, if_pos (by decide), if_neg (by omega), b9, z_bd, if_pos (by decide), if_neg (by omega), b10, z_bd, if_pos (by decide), if_neg (by omega)]
  exact h
theorem L_fails {A : zA} {σ : zS} (hA : a_ok A) (hC : a_C σ A) : ∃ A', a_ok A' ∧ a_V A' = a_V A ∧ s_to (f_L_fails σ) 1 A' := by
  have hV := hA.2.1
  have hF := hV.1
  have hM := hV.2.1
  have zM : zr (v_M (a_V A)) := by unfold zr; omega
  have zF : zr (v_F (a_V A) + 1) := by unfold zr; omega
  obtain ⟨σ1, u1, C1⟩ := s_print hA hC
  have b1 := fun (σ : zS) => s_appendBad (σ := σ) (x := 10) (y := 1) (by decide) (by decide) (by decide)
  have b2 := fun (σ : zS) => s_appendBad (σ := σ) (x := 0) (y := 0) (by decide) (by decide) (by decide)
  have b3 := fun (σ : zS) => s_appendBad (σ := σ) (x := 0) (y := 201) (by decide) (by decide) (by decide)
  have b4 := fun (σ : zS) => s_babbleBad (σ := σ) (x := 1) (y := 0) (by decide) (by decide)
  have m1 := s_markBad (k := 4) (f := 0) (t := 1) (d := 0) hA C1 (by decide) (by decide) (by decide) (by decide) (by omega)
  have m2 := s_markBad (k := 0) (f := -1) (t := 1) (d := 0) hA C1 (by decide) (by decide) (by decide) (by decide) (by omega)
  have m3 := s_markBad (k := 0) (f := 0) (t := v_F (a_V A) + 1) (d := 0) hA C1 (by decide) (by decide) zF (by decide) (by omega)
  have m4 := s_markBad (k := 0) (f := 0) (t := 0) (d := 0) hA C1 (by decide) (by decide) (by decide) (by decide) (by omega)
  have m5 := s_markBad (k := 0) (f := 0) (t := 1) (d := 101) hA C1 (by decide) (by decide) (by decide) (by decide) (by omega)
  have b5 := s_unmarkBad (m := v_M (a_V A)) hA C1 zM (by omega)
  have b6 := s_holdBad (m := v_M (a_V A)) (y := 1) hA C1 zM (by omega)
  have b7 := fun (σ : zS) => s_setBad (σ := σ) (x := 7) (y := 1) (by decide) (by decide) (by decide)
  have b8 := fun (σ : zS) => s_setBad (σ := σ) (x := 0) (y := 101) (by decide) (by decide) (by decide)
  have b9 := fun (σ : zS) => s_setBad (σ := σ) (x := 1) (y := 10) (by decide) (by decide) (by decide)
  have h := L_fails185 hA C1
  unfold f_L_fails
  rw [u1, z_bd, s_setting7 C1, z_bd, s_setting8 C1, z_bd, b1, z_bd, if_pos (by decide), if_neg (by omega), b2, z_bd, if_pos (by decide), if_neg (by omega), b3, z_bd, if_pos (by decide), if_neg (by omega), b4, z_bd, if_pos (by decide), if_neg (by omega)]
  rw [m1, z_bd, if_pos (by decide), if_neg (by omega), m2, z_bd, if_pos (by decide), if_neg (by omega), m3, z_bd, if_pos (by decide), if_neg (by omega), m4, z_bd, if_pos (by decide), if_neg (by omega), m5, z_bd, if_pos (by decide), if_neg (by omega)]
  rw [b5, z_bd, if_pos (by decide), if_neg (by omega), b6, z_bd, if_pos (by decide), if_neg (by omega), b7, z_bd, if_pos (by decide), if_neg (by omega), b8, z_bd, if_pos (by decide), if_neg (by omega), b9, z_bd, if_pos (by decide), if_neg (by omega)]
  exact h
