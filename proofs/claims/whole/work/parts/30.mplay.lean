/-! THE REFERENCE'S RESULT, ALL -/
theorem m_l130 {V : zV} (hV : v_ok V) {d w : Int} (K : zS → Int → Int → Option (Unit × zS)) {a e y : Int} {r0 : zP} (he : e ≤ v_F V) (ha : 0 ≤ a) : ∀ (n i f : Nat) (σ : zS), n < f → a + i + n = e → v_Q (σ 1) V d w → r_N σ (q_rec V r0 a i) → (0 ≤ r0.1 ∧ r0.1 ≤ a) → ∃ (τ : zS) (f' : Nat), f_X6_plays_l130 K f σ (a + i) y e = f_X6_plays_b130 K (f_X6_plays_l130 K f') τ e y e ∧ r_N τ (q_rec V r0 a (i + n)) ∧ z_ex p_A σ τ := by
  intro n
  have hF := hV.1
  induction n with
  | zero =>
    intro i f σ hf hi hC hr h0
    obtain ⟨f, rfl⟩ : ∃ k, f = k + 1 := ⟨f - 1, by omega⟩
    refine ⟨σ, f, ?_, hr, z_ex_rf⟩
    rw [show a + (i : Int) = e by omega]
    rfl
  | succ n ih =>
    intro i f σ hf hi hC hr h0
    obtain ⟨f, rfl⟩ : ∃ k, f = k + 1 := ⟨f - 1, by omega⟩
    have x0 : 0 ≤ a + i ∧ a + i < v_F V := by omega
    have hn := q_rec_n V r0 a i
    have hq : q_rec V r0 a (i + 1) = q_add (q_rec V r0 a i) (a + i) (q_hl V (a + i)) := rfl
    have hL := hV.2.2.1 (a + i) x0.1 x0.2
    have hLv := hC.2.2.1 (a + i) x0.1 x0.2
    have hnz := q_nz_ok V (a + i) (v_M V).toNat
    have hno := m_isNoise hV (x := a + i) (by omega) hC
    obtain ⟨υ, u1, u2, u3⟩ := m_hears hr (s := a + i) (l := q_hl V (a + i)) (by omega)
    obtain ⟨τ, f', t1, t2, t3⟩ := ih (i + 1) f υ (by omega) (by omega) (v_Q_ex hC u3 (by omega)) (by rw [hq]; exact u2) h0
    refine ⟨τ, f', ?_, by rw [show i + (n + 1) = i + 1 + n by omega]; exact t2, z_ex_tr u3 t3⟩
    rw [← t1]
    have hB : f_X6_plays_b168 K (f_X6_plays_l130 K f) σ (a + i) y e (a + i) (q_hl V (a + i)) = f_X6_plays_l130 K f υ (a + ((i + 1 : Nat) : Int)) y e := by
      unfold f_X6_plays_b168
      rw [u1, z_bd, show a + (i : Int) + 1 = a + ((i + 1 : Nat) : Int) by omega]
    rw [← hB]
    show f_X6_plays_b130 K (f_X6_plays_l130 K f) σ (a + i) y e = _
    unfold f_X6_plays_b130
    rw [if_pos (by unfold zr; omega), if_neg (by omega), hno, z_bd, if_pos (by unfold zr; omega)]
    have hh : q_hl V (a + i) = if q_nz V (a + i) (v_M V).toNat = 0 then v_L V (a + i) else (v_L V (a + i)).tdiv 2 := rfl
    by_cases b : q_nz V (a + i) (v_M V).toNat = 0
    · rw [if_pos b] at hh
      rw [if_pos b, if_pos (by omega), hLv, ← hh]
    · rw [if_neg b] at hh
      rw [if_neg b, if_pos (by omega), hLv, if_pos (by unfold zr; omega), ← hh]
theorem m_l95 {V : zV} (hV : v_ok V) {d w : Int} {s : zL} {k : Int} (hk : q_cok V s k) (hk2 : k ≤ 20) : ∀ (n i f : Nat) (σ : zS), n + 1 < f → (i : Int) + n = s.1 → v_Q (σ 1) V d w → r_M σ s → r_H σ (q_R V) → r_N σ (q_pl V s i).1 → σ 0 18 = (q_pl V s i).2.1 → ∃ τ, f_X6_plays_l95 f σ (q_pl V s i).2.2 i = some ((), τ) ∧ r_N τ (q_res V s) ∧ z_ex p_B σ τ := by
  intro n
  have hF := hV.1
  induction n with
  | zero =>
    intro i f σ hf hi hC hs hG hr hT
    obtain ⟨f, rfl⟩ : ∃ k, f = k + 1 := ⟨f - 1, by omega⟩
    obtain ⟨f, rfl⟩ : ∃ k, f = k + 1 := ⟨f - 1, by omega⟩
    have hn := hk.1
    obtain ⟨g1, g2, g3, g4, g5, g6⟩ := q_pl_ok hV hk i (by omega)
    have h7 := hC.1
    have h12 := hs.1
    obtain ⟨τ, f', t1, t2, t3⟩ := m_l130 hV (d := d) (w := w) (f_X6_plays_l95 (f + 1)) (a := (q_pl V s i).2.2) (e := v_F V) (y := i) (r0 := (q_pl V s i).1) (Int.le_refl _) g3 (v_F V - (q_pl V s i).2.2).toNat 0 z_fuel σ (by unfold z_fuel; omega) (by omega) hC hr g1.1
    rw [show (q_pl V s i).2.2 + ((0 : Nat) : Int) = (q_pl V s i).2.2 by omega] at t1
    rw [Nat.zero_add] at t2
    have e : i = s.1.toNat := by omega
    refine ⟨τ, ?_, by rw [e] at t2; exact t2, z_ex_le t3 (fun a b h => by omega)⟩
    have h12' : τ 0 12 = s.1 := by rw [t3 0 12 (by omega)]; exact h12
    unfold f_X6_plays_l95 f_X6_plays_b95 f_X6_plays_b129
    rw [h12, h7, if_pos (by unfold zr; omega), if_neg (by omega), if_pos (by unfold zr; omega), if_pos (by omega), if_pos (by omega), t1]
    unfold f_X6_plays_b130 f_X6_plays_b210
    rw [h12', if_pos (by unfold zr; omega), if_pos (by omega), if_pos (by unfold zr; omega), if_pos (by omega)]
    unfold f_X6_plays_l95 f_X6_plays_b95
    rw [h12', if_pos (by unfold zr; omega), if_pos (by omega)]
  | succ n ih =>
    intro i f σ hf hi hC hs hG hr hT
    obtain ⟨f, rfl⟩ : ∃ k, f = k + 1 := ⟨f - 1, by omega⟩
    have hn := hk.1
    obtain ⟨g1, g2, g3, g4, g5, g6⟩ := q_pl_ok hV hk i (by omega)
    have g5 := g5 (by omega)
    have c := hk.2.1 i (by omega) (by omega)
    have h12 := hs.1
    obtain ⟨e0, e1, e2, e3, e4⟩ := hs.2 i (by omega) (by omega)
    obtain ⟨υ, f', u1, u2, u3⟩ := m_l130 hV (d := d) (w := w) (f_X6_plays_l95 f) (a := (q_pl V s i).2.2) (e := s.2 0 i) (y := i) (r0 := (q_pl V s i).1) (by omega) g3 (s.2 0 i - (q_pl V s i).2.2).toNat 0 z_fuel σ (by unfold z_fuel; omega) (by omega) hC hr g1.1
    rw [show (q_pl V s i).2.2 + ((0 : Nat) : Int) = (q_pl V s i).2.2 by omega] at u1
    rw [Nat.zero_add] at u2
    have r1 := q_rec_ok hV g1 g3 (s.2 0 i - (q_pl V s i).2.2).toNat (by omega)
    rw [show (q_pl V s i).2.2 + ((s.2 0 i - (q_pl V s i).2.2).toNat : Int) = s.2 0 i by omega] at r1
    obtain ⟨φ, p1, p2, p3, p4⟩ := m_pauses_l hV (d := d) (w := w) (t := (q_pl V s i).2.1) (b := s.2 1 i) (r0 := q_rec V (q_pl V s i).1 (q_pl V s i).2.2 (s.2 0 i - (q_pl V s i).2.2).toNat) (c := s.2 2 i) (by omega) (by omega) (by omega) (s.2 2 i).toNat 0 z_fuel υ (by unfold z_fuel; omega) (by omega) (v_Q_ex hC u3 (by omega)) (r_H_ex hG u3 (by omega) (by omega)) u2 ⟨q_pok_le r1 (by omega), by show (q_rec V (q_pl V s i).1 (q_pl V s i).2.2 (s.2 0 i - (q_pl V s i).2.2).toNat).1 + _ ≤ _; have := r1.1; omega⟩ (by rw [u3 0 18 (by omega), hT]; omega)
    rw [Nat.zero_add] at p2
    have u3' : z_ex p_B σ υ := z_ex_le u3 (fun a b h => by omega)
    have gg : z_ex p_B σ φ := z_ex_tr u3' p3
    obtain ⟨τ, t1, t2, t3⟩ := ih (i + 1) f φ (by omega) (by omega) (v_Q_ex hC gg (by omega)) (r_M_ex hs gg (by omega) (by omega)) (r_H_ex hG gg (by omega) (by omega)) p2 p4
    refine ⟨τ, ?_, t2, z_ex_tr gg t3⟩
    have h6 : υ 6 = σ 6 := z_ex_row u3 (by omega)
    have h6' : φ 6 = σ 6 := z_ex_row gg (by omega)
    have h12' : υ 0 12 = s.1 := by rw [u3 0 12 (by omega)]; exact h12
    have hp : f_X6_pauses υ (s.2 2 i) = some ((), φ) := p1
    unfold f_X6_plays_l95 f_X6_plays_b95 f_X6_plays_b129
    rw [h12, if_pos (by unfold zr; omega), if_neg (by omega), if_pos (by unfold zr; omega), if_neg (by omega), if_pos (by omega), e0, u1]
    unfold f_X6_plays_b130 f_X6_plays_b210
    rw [h12', h6, e2, if_pos (by unfold zr; omega), if_pos (by omega), if_pos (by unfold zr; omega), if_neg (by omega), if_pos (by omega), hp, z_bd, h6', e1, if_pos (by omega)]
    rw [show ((i : Int) + 1) = ((i + 1 : Nat) : Int) by omega]
    exact t1
theorem m_plays {σ : zS} {V : zV} {d w : Int} (hV : v_ok V) (hR : v_Q (σ 1) V d w) (hd : 0 ≤ d ∧ d ≤ 100) (hw : 0 ≤ w ∧ w ≤ 20) : ∃ τ, f_X6_plays σ = some ((), τ) ∧ r_N τ (q_res V (q_cuts V d w (v_M V).toNat)) ∧ r_M τ (q_cuts V d w (v_M V).toNat) ∧ z_ex p_D σ τ := by
  have hM := hV.2.1
  have hk := q_cuts_ok hV (d := d) (w := w) (v_M V).toNat (by omega)
  obtain ⟨α, a1, a2, a3⟩ := m_finds hR hV hd hw
  have b1 : z_ex p_D σ (z_up (z_up (z_up α 0 15 0) 0 17 0) 0 18 0) := z_ex_up (z_ex_up (z_ex_up (z_ex_le a3 (fun a b h => by omega)) (by omega)) (by omega)) (by omega)
  have b2 : z_ex (fun a b => a = 0 ∧ (b = 15 ∨ b = 17 ∨ b = 18)) α (z_up (z_up (z_up α 0 15 0) 0 17 0) 0 18 0) := z_ex_up (z_ex_up (z_ex_up z_ex_rf (by omega)) (by omega)) (by omega)
  obtain ⟨β, c1, c2, c3⟩ := m_room_l21 hV (v_M V).toNat 0 z_fuel (z_up (z_up (z_up α 0 15 0) 0 17 0) 0 18 0) (by unfold z_fuel; omega) (by omega) (v_Q_ex hR b1 (by omega)) ⟨by rw [z_ri (by omega), z_re]; rfl, fun i i0 i1 => by have i1 : i < 0 := i1; omega⟩
  have d1 : z_ex p_D σ β := z_ex_tr b1 (z_ex_le c3 (fun a b h => by omega))
  have hs : r_M β (q_cuts V d w (v_M V).toNat) := r_M_ex (r_M_ex a2 b2 (by omega) (by omega)) c3 (by omega) (by omega)
  obtain ⟨τ, t1, t2, t3⟩ := m_l95 hV (d := d) (w := w) hk (by omega) (q_cuts V d w (v_M V).toNat).1.toNat 0 z_fuel β (by have := hk.1; unfold z_fuel; omega) (by have := hk.1; omega) (v_Q_ex hR d1 (by omega)) hs c2 ⟨by rw [c3 0 15 (by omega), z_ri (by omega), z_ri (by omega), z_re]; rfl, fun i i0 i1 => by have i1 : i < 0 := i1; omega⟩ (by rw [c3 0 18 (by omega), z_re]; rfl)
  refine ⟨τ, ?_, t2, r_M_ex hs t3 (by omega) (by omega), z_ex_tr d1 (z_ex_le t3 (fun a b h => by omega))⟩
  unfold f_X6_plays
  rw [a1, z_bd, z_put, z_put, z_put]
  exact c1.trans t1
