/-! THE LAW'S BODY FROM THE NEW OBJECT ON -/
theorem z_V0_C : (q_C z_V0).1 = 0 := rfl
theorem z_V0_P : (q_P z_V0).1 = 0 := by
  have h := q_P_n (V := z_V0) z_A0_ok.2.1
  rw [h]
  rfl
theorem z_V0_ro (d w : Int) : q_ro z_V0 d w = 0 := rfl
theorem z_V0_fr (d w : Int) : q_fr z_V0 d w = 0 := rfl
theorem z_V0_gd (w : Int) : q_gd z_V0 w 0 101 = 100 := by
  show (if q_fr z_V0 ((100 : Nat) : Int) w ≤ 0 then ((100 : Nat) : Int) else q_gd z_V0 w 0 100) = 100
  rw [z_V0_fr, if_pos (by omega)]
  rfl
theorem L_law {E : yE} (hE : e_L E ≤ 260) : s_end (f_L_law E z_s0) := by
  have hA0 := z_A0_ok
  have hC0 := z_A0_C
  have u1 := s_undo0 hC0 (show a_h z_A0 = 0 from rfl)
  obtain ⟨σ2, u2, C2⟩ := s_length hA0 hC0
  have u2 : f_X5_length z_s0 = some ((q_P z_V0).1, σ2) := u2
  rw [z_V0_P] at u2
  obtain ⟨σ3, u3, C3⟩ := s_cuts hA0 C2
  have u3 : f_X5_cuts σ2 = some (0, σ3) := u3
  obtain ⟨σ4, u4, C4⟩ := s_loud hA0 C3
  have u4 : f_X5_loudness σ3 = some (if (q_P z_V0).1 = 0 then (0, 0) else (q_sum (q_P z_V0).2.2 (q_P z_V0).1.toNat, (q_P z_V0).1), σ4) := u4
  rw [if_pos z_V0_P] at u4
  obtain ⟨σ5, u5, C5⟩ := s_share hA0 C4
  have u5 : f_X5_share σ4 = some (if v_F z_V0 = 0 then (0, 0) else (v_F z_V0 - q_sum (q_w (q_C z_V0) 0) (q_C z_V0).1.toNat, v_F z_V0), σ5) := u5
  rw [if_pos (show v_F z_V0 = 0 from rfl)] at u5
  obtain ⟨z6, ⟨σ6, u6, C6⟩, h6a, h6b⟩ := s_silence hA0 C5
  have h6b : z6 ≤ (q_P z_V0).1 := h6b
  rw [z_V0_P] at h6b
  obtain ⟨w7, ⟨σ7, u7, C7⟩, h7a, h7b, h7c⟩ := s_best hA0 C6
  have h7 : w7 = 0 := by
    by_cases e : w7 = 0
    · exact e
    · have h := h7c 0 (by omega) (by omega)
      have h : q_ro z_V0 (v_S z_V0 0) w7 < q_ro z_V0 (v_S z_V0 0) 0 := h
      rw [z_V0_ro, z_V0_ro] at h
      omega
  obtain ⟨σ8, u8, C8⟩ := s_doubt (x := 0) hA0 C7 (by omega)
  have u8 : f_X5_greatestDoubt σ7 0 = some (q_gd z_V0 (v_S z_V0 2) 0 101, σ8) := u8
  rw [z_V0_gd] at u8
  obtain ⟨A9, hA9, e9, σ9, u9, C9⟩ := L_fails hA0 C8
  have e9 : a_V A9 = z_V0 := e9
  have f9 : v_F (a_V A9) = 0 := by rw [e9]; rfl
  have m9 : v_M (a_V A9) = 0 := by rw [e9]; rfl
  have s9 : v_S (a_V A9) = z_init := by rw [e9]; rfl
  -- the frames
  have cell := fun (σ : zS) (k : Int) (hk : 0 ≤ k ∧ k ≤ 1000) => L_cell (E := E) (σ := σ) hE hk
  obtain ⟨c0, v0⟩ := cell σ9 0 (by omega)
  obtain ⟨k0, w0, hk0⟩ := L_up (σ := σ9) c0 (m := 80) (by omega)
  obtain ⟨c1, v1⟩ := cell σ9 1 (by omega)
  obtain ⟨V10, ⟨f10, m10, k10, s10⟩, o10, σ10, u10, C10⟩ := s_babble (x := c1) (y := 1 + k0) hA9 C9 (by omega) (by omega)
  have hA10 := a_act_ok hA9 o10
  have f10' : v_F V10 = 1 + k0 := by omega
  rw [f10'] at u10
  obtain ⟨c2, v2⟩ := cell σ10 0 (by omega)
  obtain ⟨l3, w3, hl3⟩ := L_up (σ := σ10) (z_shr c2 7) (m := 3) (by omega)
  obtain ⟨k4, w4, hk4⟩ := L_up (σ := σ10) (z_shr c2 9) (m := 20) (by omega)
  obtain ⟨V11, ⟨f11, m11, k11, s11⟩, o11, σ11, u11, C11⟩ := s_append (x := l3) (y := 1 + k4) hA10 C10 (by omega) (by omega) (by show v_F V10 + _ ≤ 200; omega)
  have hA11 := a_act_ok hA10 o11
  have f11 : v_F V11 = v_F V10 + (1 + k4) := f11
  obtain ⟨c5, v5⟩ := cell σ11 2 (by omega)
  obtain ⟨c6, v6⟩ := cell σ11 0 (by omega)
  obtain ⟨k7, w7', hk7⟩ := L_up (σ := σ11) (z_shr c6 14) (m := 40) (by omega)
  obtain ⟨V12, ⟨f12, m12, k12, s12⟩, o12, σ12, u12, C12⟩ := s_babble (x := c5) (y := 1 + k7) hA11 C11 (by omega) (by show v_F V11 + _ ≤ 200; omega)
  have hA12 := a_act_ok hA11 o12
  have f12 : v_F V12 = v_F V11 + (1 + k7) := f12
  have m12 : v_M V12 = 0 := by
    have m10 : v_M V10 = v_M (a_V A9) := m10
    have m11 : v_M V11 = v_M V10 := m11
    have m12 : v_M V12 = v_M V11 := m12
    omega
  have s12 : v_S V12 = z_init := by
    have s10 : v_S V10 = v_S (a_V A9) := s10
    have s11 : v_S V11 = v_S V10 := s11
    have s12 : v_S V12 = v_S V11 := s12
    rw [s12, s11, s10, s9]
  obtain ⟨B12, hB12⟩ : ∃ B, B = a_act (a_act (a_act A9 V10) V11) V12 := ⟨_, rfl⟩
  have b12 : a_V B12 = V12 := by rw [hB12]
  rw [← hB12] at hA12 C12
  have u13 := s_setting7 C12
  rw [b12] at u13
  -- the settings
  obtain ⟨c14, v14⟩ := cell σ12 3 (by omega)
  obtain ⟨a1, x1, ha1⟩ := L_up (σ := σ12) c14 (m := 10) (by omega)
  have hm1 : z_most 1 = 9 := by decide
  obtain ⟨σ15, u15, C15⟩ := s_set (x := 1) (y := a1) hA12 C12 (by omega) (by omega)
  have hA15 := a_act_ok hA12 (v_set_ok hA12.2.1 (x := 1) (y := a1) (by omega) (by omega))
  rw [b12] at u15 C15 hA15
  obtain ⟨B15, hB15⟩ : ∃ B, B = a_act B12 (v_set V12 1 a1) := ⟨_, rfl⟩
  have b15 : a_V B15 = v_set V12 1 a1 := by rw [hB15]
  rw [← hB15] at hA15 C15
  rw [s12] at u15
  have u15 : f_X5_set σ12 1 a1 = some (1, σ15) := u15
  obtain ⟨c16, v16⟩ := cell σ15 3 (by omega)
  obtain ⟨a2, x2, ha2⟩ := L_up (σ := σ15) (z_shr c16 4) (m := 21) (by omega)
  have hm2 : z_most 2 = 20 := by decide
  obtain ⟨σ17, u17, C17⟩ := s_set (x := 2) (y := a2) hA15 C15 (by omega) (by omega)
  have hA17 := a_act_ok hA15 (v_set_ok hA15.2.1 (x := 2) (y := a2) (by omega) (by omega))
  rw [b15] at u17 C17 hA17
  obtain ⟨B17, hB17⟩ : ∃ B, B = a_act B15 (v_set (v_set V12 1 a1) 2 a2) := ⟨_, rfl⟩
  have b17 : a_V B17 = v_set (v_set V12 1 a1) 2 a2 := by rw [hB17]
  rw [← hB17] at hA17 C17
  rw [v_set_ne _ (by omega), s12] at u17
  have u17 : f_X5_set σ15 2 a2 = some (5, σ17) := u17
  obtain ⟨c18, v18⟩ := cell σ17 3 (by omega)
  obtain ⟨a3, x3, ha3⟩ := L_up (σ := σ17) (z_shr c18 9) (m := 12) (by omega)
  have hm3 : z_most 3 = 50 := by decide
  obtain ⟨σ19, u19, C19⟩ := s_set (x := 3) (y := a3) hA17 C17 (by omega) (by omega)
  have hA19 := a_act_ok hA17 (v_set_ok hA17.2.1 (x := 3) (y := a3) (by omega) (by omega))
  rw [b17] at u19 C19 hA19
  obtain ⟨B19, hB19⟩ : ∃ B, B = a_act B17 (v_set (v_set (v_set V12 1 a1) 2 a2) 3 a3) := ⟨_, rfl⟩
  have b19 : a_V B19 = v_set (v_set (v_set V12 1 a1) 2 a2) 3 a3 := by rw [hB19]
  rw [← hB19] at hA19 C19
  rw [v_set_ne _ (by omega), v_set_ne _ (by omega), s12] at u19
  have u19 : f_X5_set σ17 3 a3 = some (4, σ19) := u19
  obtain ⟨c20, v20⟩ := cell σ19 3 (by omega)
  obtain ⟨a4, x4, ha4⟩ := L_up (σ := σ19) (z_shr c20 13) (m := 101) (by omega)
  have hm4 : z_most 4 = 100 := by decide
  obtain ⟨σ21, u21, C21⟩ := s_set (x := 4) (y := a4) hA19 C19 (by omega) (by omega)
  have hA21 := a_act_ok hA19 (v_set_ok hA19.2.1 (x := 4) (y := a4) (by omega) (by omega))
  rw [b19] at u21 C21 hA21
  obtain ⟨B21, hB21⟩ : ∃ B, B = a_act B19 (v_set (v_set (v_set (v_set V12 1 a1) 2 a2) 3 a3) 4 a4) := ⟨_, rfl⟩
  have b21 : a_V B21 = v_set (v_set (v_set (v_set V12 1 a1) 2 a2) 3 a3) 4 a4 := by rw [hB21]
  rw [← hB21] at hA21 C21
  rw [v_set_ne _ (by omega), v_set_ne _ (by omega), v_set_ne _ (by omega), s12] at u21
  have u21 : f_X5_set σ19 4 a4 = some (50, σ21) := u21
  obtain ⟨c22, v22⟩ := cell σ21 3 (by omega)
  obtain ⟨a5, x5, ha5⟩ := L_up (σ := σ21) (z_shr c22 20) (m := 9) (by omega)
  have hm5 : z_most 5 = 50 := by decide
  obtain ⟨σ23, u23, C23⟩ := s_set (x := 5) (y := a5) hA21 C21 (by omega) (by omega)
  have hA23 := a_act_ok hA21 (v_set_ok hA21.2.1 (x := 5) (y := a5) (by omega) (by omega))
  rw [b21] at u23 C23 hA23
  obtain ⟨B23, hB23⟩ : ∃ B, B = a_act B21 (v_set (v_set (v_set (v_set (v_set V12 1 a1) 2 a2) 3 a3) 4 a4) 5 a5) := ⟨_, rfl⟩
  have b23 : a_V B23 = v_set (v_set (v_set (v_set (v_set V12 1 a1) 2 a2) 3 a3) 4 a4) 5 a5 := by rw [hB23]
  rw [← hB23] at hA23 C23
  rw [v_set_ne _ (by omega), v_set_ne _ (by omega), v_set_ne _ (by omega), v_set_ne _ (by omega), s12] at u23
  have u23 : f_X5_set σ21 5 a5 = some (6, σ23) := u23
  obtain ⟨c24, v24⟩ := cell σ23 3 (by omega)
  obtain ⟨a6, x6, ha6⟩ := L_up (σ := σ23) (z_shr c24 24) (m := 6) (by omega)
  have hm6 : z_most 6 = 50 := by decide
  obtain ⟨σ25, u25, C25⟩ := s_set (x := 6) (y := a6) hA23 C23 (by omega) (by omega)
  have hA25 := a_act_ok hA23 (v_set_ok hA23.2.1 (x := 6) (y := a6) (by omega) (by omega))
  rw [b23] at u25 C25 hA25
  rw [v_set_ne _ (by omega), v_set_ne _ (by omega), v_set_ne _ (by omega), v_set_ne _ (by omega), v_set_ne _ (by omega), s12] at u25
  have u25 : f_X5_set σ23 6 a6 = some (2, σ25) := u25
  have hend := L_317 hE 16 z_fuel 0 _ σ25 (by unfold z_fuel; omega) (by omega) (by omega) hA25 C25 (by show 0 < v_F V12; omega) (by show v_M V12 ≤ 0; omega)
  have hend : s_end (f_L_law_l317 E z_fuel σ25 (v_F V12) 0) := hend
  unfold f_L_law
  rw [u1, z_bd, if_pos (by decide), if_neg (by omega), u2, z_bd, if_pos (by decide), if_neg (by omega), u3, z_bd, if_pos (by decide), if_neg (by omega), u4, z_bd, if_pos ⟨rfl, by decide⟩, if_pos (by decide), if_neg (by omega), u5, z_bd, if_pos ⟨rfl, by decide⟩, if_pos (by decide), if_neg (by omega)]
  rw [u6, z_bd, if_pos (by unfold zr; omega), if_neg (by omega), u7, z_bd, if_pos (by unfold zr; omega), if_neg (by omega), u8, z_bd, if_pos (by decide), if_neg (by omega), u9, z_bd, if_pos (by decide), if_pos (by omega)]
  rw [v0, z_bd, w0, z_bd, v1, z_bd, u10, z_bd, if_pos (by unfold zr; omega), if_neg (by omega), v2, z_bd, w3, z_bd, v2, z_bd, w4, z_bd, u11, z_bd, if_pos (by unfold zr; omega), if_neg (by omega), v5, z_bd, v6, z_bd, w7', z_bd, u12, z_bd, if_pos (by unfold zr; omega), if_pos (by omega), u13, z_bd]
  rw [v14, z_bd, x1, z_bd, u15, z_bd, if_pos (by decide), if_neg (by omega), v16, z_bd, x2, z_bd, u17, z_bd, if_pos (by decide), if_neg (by omega), v18, z_bd, x3, z_bd, u19, z_bd, if_pos (by decide), if_neg (by omega), v20, z_bd, x4, z_bd, u21, z_bd, if_pos (by decide), if_neg (by omega), v22, z_bd, x5, z_bd, u23, z_bd, if_pos (by decide), if_neg (by omega), v24, z_bd, x6, z_bd, u25, z_bd, if_pos (by decide), if_pos rfl]
  exact hend
