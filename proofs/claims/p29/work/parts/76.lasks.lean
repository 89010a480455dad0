/-! THE LAW'S SEARCHES -/
/-- two recordings that differ in the greatest doubt and the window alone -/
def v_al (V W : zV) : Prop := v_F W = v_F V ∧ v_M W = v_M V ∧ v_L W = v_L V ∧ v_K W = v_K V ∧ v_S W 1 = v_S V 1 ∧ v_S W 3 = v_S V 3 ∧ v_S W 4 = v_S V 4 ∧ v_S W 5 = v_S V 5 ∧ v_S W 6 = v_S V 6
theorem v_al_lv {V W : zV} (h : v_al V W) (i : Int) : q_lv W i = q_lv V i := by
  unfold q_lv
  rw [h.1, h.2.2.1]
theorem v_al_seam {V W : zV} (h : v_al V W) (t lo hi : Int) : ∀ (n : Nat) (d : Int), q_seam W t lo hi n d = q_seam V t lo hi n d := by
  intro n
  induction n with
  | zero => intro d; rfl
  | succ n ih =>
    intro d
    unfold q_seam
    unfold q_qt
    rw [ih, v_al_lv h, v_al_lv h, v_al_lv h, v_al_lv h, h.2.2.2.2.1]
theorem v_al_step {V W : zV} (h : v_al V W) (d w : Int) (s : zL) (m : Int) : q_step W d w s m = q_step V d w s m := by
  obtain ⟨h1, h2, h3, h4, h5, h6, h7, h8, h9⟩ := h
  have h : v_al V W := ⟨h1, h2, h3, h4, h5, h6, h7, h8, h9⟩
  have e1 : q_low W s m = q_low V s m := by unfold q_low; rw [h4]
  have e2 : q_high W m = q_high V m := by unfold q_high; rw [h2, h4, h1]
  have e3 : q_b0 W w s m = q_b0 V w s m := by unfold q_b0 q_sm; rw [e1, h4, v_al_seam h]
  have e4 : q_b W w s m = q_b V w s m := by unfold q_b; rw [e3, h4]
  have e5 : q_e0 W w s m = q_e0 V w s m := by unfold q_e0 q_sm; rw [e4, e2, h4, v_al_seam h]
  have e6 : q_e W w s m = q_e V w s m := by unfold q_e; rw [e5, h4]
  have e7 : q_p W w s m = q_p V w s m := by unfold q_p; rw [e6, e4, h7, h6]
  have e8 : q_fill W w s m = q_fill V w s m := by unfold q_fill; rw [e3, e4, e5, e6, e7]
  have e9 : q_breath W s m = q_breath V s m := by unfold q_breath; rw [h4, h8, h9]
  unfold q_step
  rw [e8, e9, h4]
theorem v_al_cuts {V W : zV} (h : v_al V W) (d w : Int) : ∀ n : Nat, q_cuts W d w n = q_cuts V d w n := by
  intro n
  induction n with
  | zero => rfl
  | succ n ih =>
    show q_step W d w (q_cuts W d w n) n = q_step V d w (q_cuts V d w n) n
    rw [ih, v_al_step h]
theorem v_set_eq (V : zV) (x y : Int) : v_S (v_set V x y) x = y := if_pos rfl
theorem v_set_ne (V : zV) {x y i : Int} (h : i ≠ x) : v_S (v_set V x y) i = v_S V i := if_neg h
theorem v_al_set (V : zV) {x y : Int} (hx : x = 0 ∨ x = 2) : v_al V (v_set V x y) := ⟨rfl, rfl, rfl, rfl, v_set_ne V (by omega), v_set_ne V (by omega), v_set_ne V (by omega), v_set_ne V (by omega), v_set_ne V (by omega)⟩
theorem q_ro_set (V : zV) (w : Int) : q_sum (q_w (q_C (v_set V 2 w)) 2) (q_C (v_set V 2 w)).1.toNat = q_ro V (v_S V 0) w := by
  have e : q_C (v_set V 2 w) = q_cuts V (v_S V 0) w (v_M V).toNat := by
    show q_cuts (v_set V 2 w) (v_S (v_set V 2 w) 0) (v_S (v_set V 2 w) 2) (v_M V).toNat = _
    rw [v_al_cuts (v_al_set V (Or.inr rfl)), v_set_eq, v_set_ne V (show (0 : Int) ≠ 2 by omega)]
  rw [e]
  rfl
theorem q_fr_set (V : zV) (d : Int) : q_sum (q_w (q_C (v_set V 0 d)) 0) (q_C (v_set V 0 d)).1.toNat = q_fr V d (v_S V 2) := by
  have e : q_C (v_set V 0 d) = q_cuts V d (v_S V 2) (v_M V).toNat := by
    show q_cuts (v_set V 0 d) (v_S (v_set V 0 d) 0) (v_S (v_set V 0 d) 2) (v_M V).toNat = _
    rw [v_al_cuts (v_al_set V (Or.inl rfl)), v_set_eq, v_set_ne V (show (2 : Int) ≠ 0 by omega)]
  rw [e]
  rfl
theorem L_asks150 {A : zA} {σ : zS} (hA : a_ok A) (hC : a_C σ A) : s_to (f_L_asks_b150 σ (q_pr (a_V A))) 1 A := by
  obtain ⟨σ1, u1, C1⟩ := s_print hA hC
  refine ⟨σ1, ?_, C1⟩
  unfold f_L_asks_b150 f_L_asks_b164
  rw [u1, z_bd, if_pos rfl, if_pos (by decide), if_neg (by omega), if_pos (by omega)]
theorem L_asks70 {A : zA} {σ : zS} (hA : a_ok A) (hC : a_C σ A) {x1 w d : Int} (hx : 0 ≤ x1 ∧ x1 ≤ 1000) (hw : 0 ≤ w ∧ w ≤ 20) (hb : q_ro (a_V A) (v_S (a_V A) 0) w ≤ q_ro (a_V A) (v_S (a_V A) 0) (v_S (a_V A) 2)) (hd : d = -9 ∨ ((0 ≤ d ∧ d ≤ 100) ∧ q_fr (a_V A) d (v_S (a_V A) 2) ≤ x1)) : ∃ A', a_ok A' ∧ a_V A' = a_V A ∧ s_to (f_L_asks_b70 σ x1 (q_pr (a_V A)) w d (q_ro (a_V A) (v_S (a_V A) 0) (v_S (a_V A) 2)) (v_S (a_V A) 2)) 1 A' := by
  have hV := hA.2.1
  have hS := hV.2.2.2.2.2
  have hS0 := hS.1
  have hS2 := hS.2.2.1
  have r1 := q_ro_ok hV (v_S (a_V A) 0) w
  have r2 := q_ro_ok hV (v_S (a_V A) 0) (v_S (a_V A) 2)
  have hm2 : z_most 2 = 20 := by decide
  have hm0 : z_most 0 = 100 := by decide
  obtain ⟨σ1, u1, C1⟩ := s_print hA hC
  obtain ⟨σ2, u2, C2⟩ := s_set (x := 2) (y := w) hA C1 (by omega) (by omega)
  have hA2 : a_ok (a_act A (v_set (a_V A) 2 w)) := a_act_ok hA (v_set_ok hV (by omega) (by omega))
  obtain ⟨σ3, u3, C3⟩ := s_sum (x := 2) hA2 C2 (by omega)
  have u3 : f_X5_sum σ2 2 = some (q_sum (q_w (q_C (v_set (a_V A) 2 w)) 2) (q_C (v_set (a_V A) 2 w)).1.toNat, σ3) := u3
  rw [q_ro_set] at u3
  obtain ⟨t1, t2⟩ := a_un_act hA (v_set (a_V A) 2 w)
  have hA3 := a_un_ok hA2 t1
  obtain ⟨σ4, u4, C4⟩ := s_undo hA2 C3 t1
  have t3 := hA2.2.2.1
  have u5 := s_setting (x := 0) C4 (by omega)
  rw [t2] at u5
  unfold f_L_asks_b70
  rw [u1, z_bd, if_pos rfl, if_pos (by decide), if_neg (by omega), u2, z_bd, if_pos (by unfold zr; omega), if_neg (by omega), u3, z_bd, if_pos (by unfold zr; omega), if_neg (by omega), u4, z_bd, if_pos (by unfold zr; omega), if_pos (by omega), u5, z_bd, if_pos (by unfold zr; omega)]
  rcases hd with hd | hd
  · rw [if_pos (by omega)]
    have h := L_asks150 hA3 C4
    rw [t2] at h
    exact ⟨_, hA3, t2, h⟩
  · have r3 := q_fr_ok hV d (v_S (a_V A) 2)
    have hV3 : a_V (a_un (a_act A (v_set (a_V A) 2 w))) = a_V A := t2
    obtain ⟨B, hB⟩ : ∃ B, B = a_un (a_act A (v_set (a_V A) 2 w)) := ⟨_, rfl⟩
    rw [← hB] at hA3 C4 hV3
    obtain ⟨σ6, u6, C6⟩ := s_set (x := 0) (y := d) hA3 C4 (by omega) (by omega)
    have hA6 : a_ok (a_act B (v_set (a_V B) 0 d)) := a_act_ok hA3 (v_set_ok hA3.2.1 (by omega) (by omega))
    obtain ⟨σ7, u7, C7⟩ := s_sum (x := 0) hA6 C6 (by omega)
    have u7 : f_X5_sum σ6 0 = some (q_sum (q_w (q_C (v_set (a_V B) 0 d)) 0) (q_C (v_set (a_V B) 0 d)).1.toNat, σ7) := u7
    rw [q_fr_set] at u7
    obtain ⟨t4, t5⟩ := a_un_act hA3 (v_set (a_V B) 0 d)
    have hA8 := a_un_ok hA6 t4
    obtain ⟨σ8, u8, C8⟩ := s_undo hA6 C7 t4
    have t6 := hA6.2.2.1
    rw [hV3] at u6 u7
    have h := L_asks150 hA8 C8
    rw [t5, hV3] at h
    rw [if_neg (by omega), u6, z_bd, if_pos (by unfold zr; omega), if_neg (by omega), u7, z_bd, if_pos (by unfold zr; omega), if_neg (by omega), u8, z_bd, if_pos (by unfold zr; omega), if_neg (by omega)]
    exact ⟨_, hA8, t5.trans hV3, h⟩
theorem L_asks {A : zA} {σ : zS} (hA : a_ok A) (hC : a_C σ A) {x1 : Int} (hx : 0 ≤ x1 ∧ x1 ≤ 1000) : ∃ A', a_ok A' ∧ a_V A' = a_V A ∧ s_to (f_L_asks σ x1) 1 A' := by
  have hV := hA.2.1
  have hS := hV.2.2.2.2.2
  have hS0 := hS.1
  have hS2 := hS.2.2.1
  obtain ⟨σ1, u1, C1⟩ := s_print hA hC
  obtain ⟨w, ⟨σ2, u2, C2⟩, hw, hb, hb2⟩ := s_best hA C1
  obtain ⟨σ3, u3, C3⟩ := s_doubt hA C2 (x := x1) (by omega)
  have hd := q_gd_ok (a_V A) (v_S (a_V A) 2) x1 101
  obtain ⟨σ4, u4, C4⟩ := s_sum (x := 2) hA C3 (by omega)
  have u4 : f_X5_sum σ3 2 = some (q_ro (a_V A) (v_S (a_V A) 0) (v_S (a_V A) 2), σ4) := u4
  have u5 := s_setting (x := 2) C4 (by omega)
  obtain ⟨d, hde⟩ : ∃ d, d = q_gd (a_V A) (v_S (a_V A) 2) x1 101 := ⟨_, rfl⟩
  rw [← hde] at u3 hd
  have h := L_asks70 hA C4 hx hw (hb _ hS2.1 hS2.2) (d := d) (by
    rcases hd with hd | hd
    · exact Or.inl hd
    · exact Or.inr ⟨by omega, hd.2⟩)
  unfold f_L_asks
  rw [u1, z_bd, u2, z_bd, u3, z_bd, u4, z_bd, u5, z_bd, if_pos (by unfold zr; omega), if_neg (by omega), if_pos (by unfold zr; omega), if_neg (by omega), if_pos (by unfold zr; omega), if_neg (by omega), if_pos (by unfold zr; omega), if_neg (by omega), if_pos (by unfold zr; omega)]
  rcases hd with hd | hd
  · rw [if_neg (by omega), if_pos (by unfold zr; omega), if_neg (by omega)]
    exact h
  · rw [if_pos (by omega)]
    exact h
