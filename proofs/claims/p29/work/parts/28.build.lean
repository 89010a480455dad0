/-! THE CLASS' RESULT, ALL -/
theorem c_addRec_l {V : zV} (hV : v_ok V) {a e : Int} {r0 : zP} (he : e ≤ v_F V) (ha : 0 ≤ a) : ∀ (n i f : Nat) (σ : zS), n < f → a + i + n = e → v_C σ 0 V → r_G σ (q_R V) (fun f => q_nz V f (v_M V).toNat) → r_P σ (q_rec V r0 a i) → (0 ≤ r0.1 ∧ r0.1 ≤ a) → ∃ τ, f_X3_addRecorded_l3 f σ e (a + i) = some ((), τ) ∧ r_P τ (q_rec V r0 a (i + n)) ∧ z_bl σ τ ∧ τ 54 5 = σ 54 5 := by
  intro n
  have hF := hV.1
  induction n with
  | zero =>
    intro i f σ hf hi hC hG hr h0
    obtain ⟨f, rfl⟩ : ∃ k, f = k + 1 := ⟨f - 1, by omega⟩
    refine ⟨σ, ?_, hr, z_bl_rf, rfl⟩
    unfold f_X3_addRecorded_l3 f_X3_addRecorded_b3
    rw [if_pos (by unfold zr; omega), if_pos (by omega)]
  | succ n ih =>
    intro i f σ hf hi hC hG hr h0
    obtain ⟨f, rfl⟩ : ∃ k, f = k + 1 := ⟨f - 1, by omega⟩
    have x0 : 0 ≤ a + i ∧ a + i < v_F V := by omega
    have hn := q_rec_n V r0 a i
    have hq : q_rec V r0 a (i + 1) = q_add (q_rec V r0 a i) (a + i) (q_hl V (a + i)) := rfl
    have hL := hV.2.2.1 (a + i) x0.1 x0.2
    have hlv := c_levelAt hC hV (x := a + i) (by unfold zr; omega)
    unfold q_lv at hlv
    rw [if_pos x0] at hlv
    have hhf : f_X2_hasFrame 0 σ (a + i) = some (1, σ) := by
      have h1 := (v_C0 hC).1
      unfold f_X2_hasFrame f_X2_hasFrame_b16 f_X2_hasFrame_b17
      simp only [Nat.mul_zero]
      rw [if_pos (by unfold zr; omega), if_neg (by omega), h1, if_pos (by unfold zr; omega), if_neg (by omega), if_pos (by omega)]
    have h58 : σ 58 (a + i) = q_nz V (a + i) (v_M V).toNat := hG.2.2 (a + i) (by omega) (by omega)
    have hnz := q_nz_ok V (a + i) (v_M V).toNat
    obtain ⟨υ, u1, u2, u3, u4⟩ := c_add hr (s := a + i) (l := q_hl V (a + i)) (by omega)
    obtain ⟨τ, t1, t2, t3, t4⟩ := ih (i + 1) f υ (by omega) (by omega) (v_C_bl hC u3) (r_G_bl hG u3) (by rw [hq]; exact u2) h0
    refine ⟨τ, ?_, by rw [show i + (n + 1) = i + 1 + n by omega]; exact t2, z_bl_tr u3 t3, t4.trans u4⟩
    have hB : f_X3_addRecorded_b48 (f_X3_addRecorded_l3 f) σ e (a + i) (a + i) (q_hl V (a + i)) = some ((), τ) := by
      unfold f_X3_addRecorded_b48 f_X3_addRecorded_b51
      rw [u1, z_bd, show a + (i : Int) + 1 = a + ((i + 1 : Nat) : Int) by omega]
      exact t1
    unfold f_X3_addRecorded_l3 f_X3_addRecorded_b3
    rw [if_pos (by unfold zr; omega), if_neg (by omega), hhf, z_bd, if_pos (by unfold zr; omega), if_neg (by omega), hlv, z_bd, if_pos (by omega), h58, if_pos (by unfold zr; omega)]
    have hh : q_hl V (a + i) = if q_nz V (a + i) (v_M V).toNat = 0 then v_L V (a + i) else (v_L V (a + i)).tdiv 2 := rfl
    by_cases b : q_nz V (a + i) (v_M V).toNat = 0
    · rw [if_pos b] at hh
      rw [if_pos b, ← hh]
      exact hB
    · rw [if_neg b] at hh
      rw [if_neg b, if_pos (by unfold zr; omega), ← hh]
      exact hB
theorem c_addRec {σ : zS} {V : zV} {a e : Int} {r : zP} (hV : v_ok V) (hC : v_C σ 0 V) (hG : r_G σ (q_R V) (fun f => q_nz V f (v_M V).toNat)) (hr : r_P σ r) (h0 : 0 ≤ r.1 ∧ r.1 ≤ a) (ha : 0 ≤ a ∧ a ≤ e) (he : e ≤ v_F V) : ∃ τ, f_X3_addRecorded σ a e = some ((), τ) ∧ r_P τ (q_rec V r a (e - a).toNat) ∧ z_bl σ τ ∧ τ 54 5 = σ 54 5 := by
  have hF := hV.1
  obtain ⟨τ, t1, t2, t3, t4⟩ := c_addRec_l hV he ha.1 (e - a).toNat 0 z_fuel σ (by unfold z_fuel; omega) (by omega) hC hG (r0 := r) hr h0
  refine ⟨τ, ?_, by rw [Nat.zero_add] at t2; exact t2, t3, t4⟩
  unfold f_X3_addRecorded
  rw [show a + ((0 : Nat) : Int) = a by omega] at t1
  exact t1
theorem c_build_l {V : zV} (hV : v_ok V) {s : zL} {k : Int} (hk : q_cok V s k) (hk2 : k ≤ 20) : ∀ (n i f : Nat) (σ : zS), n < f → (i : Int) + n = s.1 → v_C σ 0 V → r_C σ s → r_G σ (q_R V) (fun f => q_nz V f (v_M V).toNat) → r_P σ (q_pl V s i).1 → r_T V (σ 54 5) (q_pl V s i).2.1 → ∃ τ, f_X3_build_l15 f σ (q_pl V s i).2.2 i = some ((), τ) ∧ r_P τ (q_res V s) ∧ z_bl σ τ := by
  intro n
  have hF := hV.1
  induction n with
  | zero =>
    intro i f σ hf hi hC hs hG hr hT
    obtain ⟨f, rfl⟩ : ∃ k, f = k + 1 := ⟨f - 1, by omega⟩
    have hn := hk.1
    obtain ⟨g1, g2, g3, g4, g5, g6⟩ := q_pl_ok hV hk i (by omega)
    have e : i = s.1.toNat := by omega
    obtain ⟨τ, t1, t2, t3, t4⟩ := c_addRec hV hC hG hr g1.1 ⟨g3, g4⟩ (Int.le_refl _)
    refine ⟨τ, ?_, ?_, t3⟩
    · unfold f_X3_build_l15 f_X3_build_b15
      rw [hs.1, (v_C0 hC).1, if_pos (by unfold zr; omega), if_pos (by omega), t1, z_bd]
    · rw [e] at t2
      exact t2
  | succ n ih =>
    intro i f σ hf hi hC hs hG hr hT
    obtain ⟨f, rfl⟩ : ∃ k, f = k + 1 := ⟨f - 1, by omega⟩
    have hn := hk.1
    obtain ⟨g1, g2, g3, g4, g5, g6⟩ := q_pl_ok hV hk i (by omega)
    have g5 := g5 (by omega)
    have c := hk.2.1 i (by omega) (by omega)
    obtain ⟨e0, e1, e2, e3, e4⟩ := hs.2 i (by omega) (by omega)
    obtain ⟨υ, u1, u2, u3, u4⟩ := c_addRec hV hC hG hr g1.1 ⟨g3, g5⟩ (by omega)
    have r1 := q_rec_ok hV g1 g3 (s.2 0 i - (q_pl V s i).2.2).toNat (by omega)
    rw [show (q_pl V s i).2.2 + ((s.2 0 i - (q_pl V s i).2.2).toNat : Int) = s.2 0 i by omega] at r1
    obtain ⟨φ, p1, p2, p3, p4⟩ := c_addPause_l hV (t := (q_pl V s i).2.1) (b := s.2 1 i) (r0 := q_rec V (q_pl V s i).1 (q_pl V s i).2.2 (s.2 0 i - (q_pl V s i).2.2).toNat) (c := s.2 2 i) (by omega) (by omega) (s.2 2 i).toNat 0 z_fuel υ (by unfold z_fuel; omega) (by omega) (v_C_bl hC u3) (r_G_bl hG u3) u2 ⟨q_pok_le r1 (by omega), by show (q_rec V (q_pl V s i).1 (q_pl V s i).2.2 (s.2 0 i - (q_pl V s i).2.2).toNat).1 + _ ≤ _; have := r1.1; omega⟩ (by rw [u4, show (q_pl V s i).2.1 + ((0 : Nat) : Int) = (q_pl V s i).2.1 by omega]; exact hT)
    rw [Nat.zero_add] at p2
    have gg := z_bl_tr u3 p3
    obtain ⟨τ, t1, t2, t3⟩ := ih (i + 1) f φ (by omega) (by omega) (v_C_bl hC gg) (r_C_bl hs gg) (r_G_bl hG gg) p2 p4
    refine ⟨τ, ?_, t2, z_bl_tr gg t3⟩
    have h51 : υ 51 i = s.2 2 i := by rw [u3.1 51 (by omega) (by omega) (by omega)]; exact e2
    have h50 : φ 50 i = s.2 1 i := by rw [gg.1 50 (by omega) (by omega) (by omega)]; exact e1
    have hp : f_X3_addPause υ (s.2 2 i) = some ((), φ) := p1
    unfold f_X3_build_l15 f_X3_build_b15
    rw [hs.1, if_pos (by unfold zr; omega), if_neg (by omega), if_pos (by omega), e0, u1, z_bd, if_pos (by omega), h51, hp, z_bd, if_pos (by omega), h50]
    rw [show ((i : Int) + 1) = ((i + 1 : Nat) : Int) by omega]
    exact t1
theorem c_build {σ : zS} {V : zV} {s : zL} {k : Int} (hV : v_ok V) (hC : v_C σ 0 V) (hs : r_C σ s) (hk : q_cok V s k) (hk2 : k ≤ 20) : ∃ τ, f_X3_build σ = some ((), τ) ∧ r_P τ (q_res V s) ∧ r_C τ s ∧ z_out 54 58 σ τ := by
  have hn := hk.1
  have o1 : z_out 54 58 σ (z_up σ 54 2 0) := z_out_up z_out_rf (by omega) (by omega)
  obtain ⟨υ, u1, u2, u3, u4, u5⟩ := c_gather (v_C_out hC o1 (by omega)) hV
  have o2 : z_out 54 58 σ υ := fun a ha => by rw [u3 a (by omega) (by omega) (by omega)]; exact o1 a ha
  have hsυ : r_C υ s := by
    unfold r_C at hs ⊢
    rw [o2 48 (by omega), o2 49 (by omega), o2 50 (by omega), o2 51 (by omega), o2 52 (by omega), o2 53 (by omega)]
    exact hs
  obtain ⟨τ, t1, t2, t3⟩ := c_build_l hV hk hk2 s.1.toNat 0 z_fuel υ (by unfold z_fuel; omega) (by omega) (v_C_out hC o2 (by omega)) hsυ u2 ⟨by rw [u4, z_re]; rfl, fun i i0 i1 => by have i1 : i < 0 := i1; omega⟩ (by
    rw [u5]
    show r_T V 0 0
    by_cases a : (q_R V).1 = 0
    · exact Or.inl a
    · have hR := (q_R_ok hV).1
      refine Or.inr ⟨by omega, ?_⟩
      rw [if_neg (by omega), Int.zero_emod])
  refine ⟨τ, ?_, t2, r_C_bl hsυ t3, fun a ha => (t3.1 a (by omega) (by omega) (by omega)).trans (o2 a ha)⟩
  unfold f_X3_build
  rw [z_put, u1, z_bd]
  exact t1
