/-! READ: ALL SIGNS, AND WHAT COMES OF THEM -/
theorem d_ok0 {D : zV} {a : Int} (h1 : v_F D = 0) (h2 : v_M D = 0) (ha : 0 ≤ a) : d_ok D (-1) a := ⟨by omega, by omega, fun i i0 i1 => by omega, fun m m0 m1 => by omega, fun m m0 m1 => by omega, by omega⟩
theorem j_top {n : Int} {t : Int → Int} (ht : ∀ i, 0 ≤ i → i < n → 32 ≤ t i ∧ t i ≤ 126) (hn : 0 ≤ n ∧ n ≤ 120) : ∀ (N : Nat) (f fm : Nat) (a wr : Int) (D : zV) (σ τ : zS), n - a < (N : Int) → n - a < (f : Int) → n - a < (fm : Int) → 0 ≤ a → a ≤ n → c_T σ n t → m_T τ n t → c_P σ 0 wr D → m_P τ a wr D → d_ok D wr a → ∃ (σ' τ' : zS), z_pf σ σ' ∧ z_ex p_P τ τ' ∧ ((∃ b, (0 ≤ b ∧ b ≤ 120) ∧ f_X4_parse_l19 f σ n a = some (b, σ') ∧ f_X6_wrongAt_l20 fm τ = some (b, τ')) ∨ (∃ E, f_X4_parse_l19 f σ n a = some (-9, σ') ∧ f_X6_wrongAt_l20 fm τ = some (-1, τ') ∧ c_D σ' E ∧ m_D τ' E ∧ d_ok E (-1) n)) := by
  intro N
  induction N with
  | zero => intro f fm a wr D σ τ h1 h2 h3 h4 h5; omega
  | succ N ih =>
    intro f fm a wr D σ τ hN hf hfm ha han hcT hmT hc hm hD
    have hw := hD.2.2.2.2.2
    have hMM := hD.2.1
    have hFF := hD.1
    obtain ⟨g, rfl⟩ : ∃ g, f = g + 1 := ⟨f - 1, by omega⟩
    obtain ⟨gm, rfl⟩ : ∃ gm, fm = gm + 1 := ⟨fm - 1, by omega⟩
    have h8 : τ 0 8 = v_M D := hm.2.2.2.1
    have hl : f_X6_wrongAt_l20 (gm + 1) τ = f_X6_wrongAt_b20 (f_X6_wrongAt_l20 gm) τ := rfl
    unfold f_X6_wrongAt_b20 f_X6_wrongAt_b85 at hl
    rw [hm.1, hmT.1, if_pos (by unfold zr; omega)] at hl
    by_cases e0 : a < n
    · have hta := ht a ha e0
      rw [if_neg (by omega), m_isDig hmT ht ⟨ha, han⟩ hn.2 hm.1, z_bd] at hl
      by_cases e1 : z_dg (t a)
      · rw [if_pos (show a < n ∧ z_dg (t a) from ⟨e0, e1⟩), if_pos (by decide), if_neg (by omega)] at hl
        obtain ⟨K, k1, k2, k3⟩ := z_drun t (n := n) (n - a).toNat a (by omega) (by omega)
        have hK : 1 ≤ K := by
          rcases Nat.eq_zero_or_pos K with h | h
          · rw [h, show a + ((0 : Nat) : Int) = a by omega] at k3
            exact absurd e1 (k3 e0)
          · exact h
        obtain ⟨τ2, n1, n2, n3⟩ := m_frames ht hn.2 K z_fuel a D τ (by unfold z_fuel; omega) ha k1 k2 k3 hmT hm hFF.1 hFF.2
        obtain ⟨gg, hgg⟩ : ∃ gg, g + 1 = gg + K := ⟨g + 1 - K, by omega⟩
        obtain ⟨σ2, s1, s2, s3⟩ := c_digs hn.2 ha (Or.inl rfl) K gg σ k2 k1 hcT hc hD
        have hp := z_pf_40 s3
        have hx : z_ex p_P τ τ2 := z_ex_le n3 (fun a b h => by omega)
        obtain ⟨σ', τ', u1, u2, u3⟩ := ih gg gm (a + K) wr (d_dig t a D K) σ2 τ2 (by omega) (by omega) (by omega) (by omega) k1 (c_T_pf hcT hp) (m_T_ex hmT n3 (by omega) (fun b => by omega)) s2 n2 (d_dig_ok hD K k2)
        refine ⟨σ', τ', z_pf_tr hp u1, z_ex_tr hx u2, ?_⟩
        unfold f_X6_takesFrames at hl
        rw [n1, z_bd] at hl
        rw [hl, hgg, s1]
        exact u3
      · rw [if_neg (show ¬ (a < n ∧ z_dg (t a)) from fun h => e1 h.2), if_pos (by decide), if_pos rfl, m_sign hmT ⟨ha, han⟩ hn.2 hm.1, if_pos e0, z_bd, if_pos (by unfold zr; omega)] at hl
        have ho := c_outside (a := a) (c := t a) hc (by unfold zr; omega) e1 hMM
        by_cases e2 : t a = 91 ∧ v_M D < 20
        · rw [if_neg (by omega), h8, if_pos (by unfold zr; omega), if_neg (by omega), z_put, hm.1] at hl
          obtain ⟨σ1, c1, c2, c3⟩ := ho.1 e2
          have hx1 : z_ex (fun a b => a = 0 ∧ b = 5) τ (z_up τ 0 5 (a + 1)) := z_ex_up z_ex_rf ⟨rfl, rfl⟩
          have hm1 : m_P (z_up τ 0 5 (a + 1)) (a + 1) wr D := ⟨z_re, by rw [z_ri (by omega)]; exact hm.2.1, m_D_of hm.2.2 hx1 (by omega) (fun b => by omega)⟩
          have hj := j_mark ht hn (show 0 ≤ a + 1 ∧ a + 1 ≤ n by omega) (show n - (a + 1) < (g : Int) by omega) (c_T_pf hcT c3) (m_T_ex hmT hx1 (by omega) (fun b => by omega)) c2 hm1 (d_le hD (by omega)) e2.2
          have hcl : f_X4_parse_l19 (g + 1) σ n a = f_X4_parse_l19 g σ1 n (a + 1) := c_ok (hcT.2 a ha e0) ⟨ha, e0⟩ hn.2 c1
          have hx1' : z_ex p_P τ (z_up τ 0 5 (a + 1)) := z_ex_le hx1 (fun a b h => by omega)
          rw [hl, hcl]
          rcases j_out_of hj c3 hx1' (show a ≤ a + 1 by omega) with ⟨b, σ', τ', r1, r2, r3, r4, r5, r6⟩ | ⟨b, f', σ', τ', wr', D', r1, r2, r3, r4, r5, r6, r7, r8, r9⟩
          · refine ⟨σ', τ', r5, r6, Or.inl ⟨b, by omega, r1, ?_⟩⟩
            rw [r2, z_bd, if_pos (by decide), if_neg (by omega), r3]
          · obtain ⟨σ2, τ2, u1, u2, u3⟩ := ih f' gm b wr' D' σ' τ' (by omega) r2 (by omega) (by omega) (by omega) (c_T_pf hcT r8) (m_T_ex hmT r9 (by omega) (fun b => by omega)) r5 r6 r7
            refine ⟨σ2, τ2, z_pf_tr r8 u1, z_ex_tr r9 u2, ?_⟩
            rw [r4, z_bd, if_pos (by decide), if_pos (by omega), r3]
            exact u3
        · have hcn := c_no (f := g) (hcT.2 a ha e0) ⟨ha, e0⟩ hn.2 (ho.2 e2)
          refine ⟨σ, τ, z_pf_rf, z_ex_rf, Or.inl ⟨a, by omega, hcn, ?_⟩⟩
          rw [hl]
          by_cases e3 : t a = 91
          · rw [if_neg (by omega), h8, if_pos (by unfold zr; omega), if_pos (by omega), hm.1]
          · rw [if_pos e3, hm.1]
    · have : n = a := by omega
      subst this
      rw [if_pos (by omega), hm.2.1] at hl
      refine ⟨σ, τ, z_pf_rf, z_ex_rf, ?_⟩
      rw [c_end hc (by omega) hw hn, if_pos rfl, hl]
      by_cases e1 : wr = -1
      · rw [if_pos e1]
        subst e1
        exact Or.inr ⟨D, rfl, rfl, hc.2.2, hm.2.2, hD⟩
      · rw [if_neg e1]
        exact Or.inl ⟨wr, by omega, rfl, rfl⟩
-- what was read, put down
theorem m_read42 {D : zV} (hF : 0 ≤ v_F D ∧ v_F D ≤ 120) : ∀ (n f : Nat) (i : Int) (τ : zS), n < f → 0 ≤ i → i + n = v_F D → m_D τ D → ∃ τ', f_X6_read_l42 f τ i = f_X6_read_l73 z_fuel τ' 0 ∧ (∀ x, τ' 1 x = if 10 + i ≤ x ∧ x < 10 + v_F D then v_L D (x - 10) else τ 1 x) ∧ z_ex (fun a _ => a = 1) τ τ' := by
  intro n
  induction n with
  | zero =>
    intro f i τ hf h0 hi hD
    obtain ⟨g, rfl⟩ : ∃ g, f = g + 1 := ⟨f - 1, by omega⟩
    refine ⟨τ, ?_, fun x => by rw [if_neg (by omega)], z_ex_rf⟩
    show f_X6_read_b42 _ τ i = _
    unfold f_X6_read_b42
    rw [hD.1, if_pos (by unfold zr; omega), if_pos (by omega)]
  | succ n ih =>
    intro f i τ hf h0 hi hD
    obtain ⟨g, rfl⟩ : ∃ g, f = g + 1 := ⟨f - 1, by omega⟩
    have hx : z_ex (fun a _ => a = 1) τ (z_up τ 1 (10 + i) (v_L D i)) := z_ex_up z_ex_rf rfl
    obtain ⟨τ', u1, u2, u3⟩ := ih g (i + 1) (z_up τ 1 (10 + i) (v_L D i)) (by omega) (by omega) (by omega) (m_D_of hD hx (by omega) (fun b => by omega))
    refine ⟨τ', ?_, fun x => ?_, z_ex_tr hx u3⟩
    · show f_X6_read_b42 _ τ i = _
      unfold f_X6_read_b42
      rw [hD.1, if_pos (by unfold zr; omega), if_neg (by omega), if_pos (by omega), if_pos (by omega), z_put, hD.2.2.1 i h0 (by omega)]
      exact u1
    · rw [u2]
      by_cases e : x = 10 + i
      · rw [if_neg (by omega), e, z_re, if_pos (by omega)]
        exact congrArg (v_L D) (by omega)
      · rw [z_ri e]
        by_cases e2 : 10 + i ≤ x ∧ x < 10 + v_F D
        · rw [if_pos (by omega), if_pos e2]
        · rw [if_neg (by omega), if_neg e2]
theorem m_read73 {M F : Int} (hM : 0 ≤ M ∧ M ≤ 20) : ∀ (n f : Nat) (i : Int) (τ : zS), n < f → 0 ≤ i → i + n = 5 * M → τ 0 8 = M → τ 0 7 = F → ∃ τ', f_X6_read_l73 f τ i = some (F, z_up τ' 0 4 0) ∧ (∀ x, τ' 1 x = if 210 + i ≤ x ∧ x < 210 + 5 * M then τ 5 (x - 210) else τ 1 x) ∧ z_ex (fun a _ => a = 1) τ τ' := by
  intro n
  induction n with
  | zero =>
    intro f i τ hf h0 hi h8 h7
    obtain ⟨g, rfl⟩ : ∃ g, f = g + 1 := ⟨f - 1, by omega⟩
    refine ⟨τ, ?_, fun x => by rw [if_neg (by omega)], z_ex_rf⟩
    show f_X6_read_b73 _ τ i = _
    unfold f_X6_read_b73
    rw [h8, if_pos (by unfold zr; omega), if_pos (by omega), z_put, z_ri (by omega), h7]
  | succ n ih =>
    intro f i τ hf h0 hi h8 h7
    obtain ⟨g, rfl⟩ : ∃ g, f = g + 1 := ⟨f - 1, by omega⟩
    have hx : z_ex (fun a _ => a = 1) τ (z_up τ 1 (210 + i) (τ 5 i)) := z_ex_up z_ex_rf rfl
    obtain ⟨τ', u1, u2, u3⟩ := ih g (i + 1) (z_up τ 1 (210 + i) (τ 5 i)) (by omega) (by omega) (by omega) (by rw [hx 0 8 (by omega)]; exact h8) (by rw [hx 0 7 (by omega)]; exact h7)
    refine ⟨τ', ?_, fun x => ?_, z_ex_tr hx u3⟩
    · show f_X6_read_b73 _ τ i = _
      unfold f_X6_read_b73
      rw [h8, if_pos (by unfold zr; omega), if_neg (by omega), if_pos (by omega), if_pos (by omega), z_put]
      exact u1
    · rw [u2, hx 5 _ (by omega)]
      by_cases e : x = 210 + i
      · rw [if_neg (by omega), e, z_re, if_pos (by omega)]
        exact congrArg (τ 5) (by omega)
      · rw [z_ri e]
        by_cases e2 : 210 + i ≤ x ∧ x < 210 + 5 * M
        · rw [if_pos (by omega), if_pos e2]
        · rw [if_neg (by omega), if_neg e2]
theorem c_keep12_40 {σ τ : zS} {hn : Int} {V : zV} (h1 : σ 60 1 = hn) (h0 : 0 ≤ hn ∧ hn < 4) (p : 1 ≤ σ 61 hn ∧ σ 61 hn ≤ 4) (hC : v_C σ 0 V) (hV : v_ok V) (h : f_X1_keep_b12 0 σ = some ((), τ)) : ∀ a, 40 ≤ a → a ≤ 47 → τ a = σ a := by
  intro a a0 a1
  obtain ⟨υ, u1, u2, u3⟩ := c_copyAll (j := (σ 61 hn).toNat) (k := 0) (by omega) hC hV
  unfold f_X1_keep_b12 at h
  rw [h1, if_pos (by omega), u1, z_bd, z_put] at h
  injection h with h
  injection h with _ h
  rw [← h, ← u3 a (by omega)]
  funext b
  exact z_rn (by omega)
theorem c_keep40 {σ τ : zS} {hn : Int} {hs : Int → zV} {V : zV} (hH : c_H σ hn hs) (hok : h_ok hn hs) (hC : v_C σ 0 V) (hV : v_ok V) (h : f_X1_keep 0 σ = some ((), τ)) : ∀ a, 40 ≤ a → a ≤ 47 → τ a = σ a := by
  obtain ⟨h0, h5⟩ := hok
  obtain ⟨h1, h2, h3, h4⟩ := hH
  unfold f_X1_keep at h
  rw [h1, if_pos (by unfold zr; omega)] at h
  by_cases a : hn < 4
  · rw [if_pos a] at h
    exact c_keep12_40 h1 (by omega) (h2 hn (by omega) (by omega)) hC hV h
  · obtain ⟨υ, u1, u2, ⟨u30, u31, u32, u33⟩, u4⟩ := c_drop h2
    have p0 := h2 0 (by omega) (by omega)
    rw [if_neg a, u1, z_bd] at h
    intro b b0 b1
    exact (c_keep12_40 u2 (by omega) (by rw [u33]; exact p0) (v_C_out hC u4 (by omega)) hV h b b0 b1).trans (u4 b (by omega))
theorem o_read {A : zA} {σ τ : zS} (hA : a_ok A) (hC : a_C σ A) (hM : a_M τ A) : o_eq (f_X5_read σ) (f_X6_read τ) := by
  have hA' := hA
  obtain ⟨⟨hn, ht⟩, hV, hh0⟩ := hA
  obtain ⟨σ0, hσ0⟩ : ∃ σ0, σ0 = z_up (z_up (z_up (z_up σ 40 1 0) 40 7 0) 59 1 0) 59 6 (-1) := ⟨_, rfl⟩
  obtain ⟨τ0, hτ0⟩ : ∃ τ0, τ0 = z_up (z_up (z_up (z_up τ 0 5 0) 0 6 (-1)) 0 7 0) 0 8 0 := ⟨_, rfl⟩
  have hp0 : z_pf σ σ0 := fun a h1 h2 => by
    rw [hσ0]; funext b; rw [z_rn h2, z_rn h2, z_rn (by omega), z_rn (by omega)]
  have hx0 : z_ex p_P τ τ0 := by
    rw [hτ0]
    exact z_ex_up (z_ex_up (z_ex_up (z_ex_up z_ex_rf (Or.inr (Or.inr ⟨rfl, by omega⟩))) (Or.inr (Or.inr ⟨rfl, by omega⟩))) (Or.inr (Or.inr ⟨rfl, by omega⟩))) (Or.inr (Or.inr ⟨rfl, by omega⟩))
  obtain ⟨D, hDe⟩ : ∃ D : zV, D = (0, 0, fun _ => 0, fun _ _ => 0, fun _ => 0) := ⟨_, rfl⟩
  have hF0 : v_F D = 0 := by rw [hDe]
  have hM0 : v_M D = 0 := by rw [hDe]
  have hcP : c_P σ0 0 (-1) D := by
    refine ⟨by rw [hσ0, z_ri (by omega), z_re], by rw [hσ0, z_re], by rw [hσ0, z_rn (by omega), z_rn (by omega), z_ri (by omega), z_re, hF0], by rw [hσ0, z_rn (by omega), z_rn (by omega), z_re, hM0], fun i i0 i1 => by omega, fun m m0 m1 => by omega⟩
  have hmP : m_P τ0 0 (-1) D := by
    refine ⟨by rw [hτ0, z_ri (by omega), z_ri (by omega), z_ri (by omega), z_re], by rw [hτ0, z_ri (by omega), z_ri (by omega), z_re], by rw [hτ0, z_ri (by omega), z_re, hF0], by rw [hτ0, z_re, hM0], fun i i0 i1 => by omega, fun m m0 m1 => by omega⟩
  obtain ⟨σ1, τ1, p1, x1, hj⟩ := j_top ht hn 200 z_fuel z_fuel 0 (-1) D σ0 τ0 (by omega) (by unfold z_fuel; omega) (by unfold z_fuel; omega) (by omega) hn.1 (c_T_pf hC.1 hp0) (m_T_ex hM.1 hx0 (by omega) (fun b => by omega)) hcP hmP (d_ok0 hF0 hM0 (by omega))
  have p01 := z_pf_tr hp0 p1
  have x01 := z_ex_tr hx0 x1
  have hC1 : a_C σ1 A := a_C_of hA' hC (fun a h => p01 a (by omega) (by omega))
  have hM1 : a_M τ1 A := a_M_of hM x01 (by omega) (by omega) (fun b => by omega)
  have ec : f_X5_read σ = z_bind (f_X4_parse_l19 z_fuel σ0 (a_n A) 0) fun r2 σ1 => if zr r2 then if r2 = (-9) then z_bind (f_X1_keep 0 σ1) fun _ σ3 => z_bind (f_X2_copySound 0 5 σ3) fun _ σ4 => z_put σ4 62 1 0 fun σ5 => some (σ5 0 1, σ5) else some ((-100) - r2, σ1) else none := by
    unfold f_X5_read f_X4_parse f_X2_removeSound
    rw [hC.1.1, z_put, z_put, z_bd, z_put, z_put, ← hσ0]
  have em : f_X6_read τ = z_bind (f_X6_wrongAt_l20 z_fuel τ0) fun r2 σ1 => if zr r2 then if r2 < 0 then z_bind (f_X6_act σ1) fun _ σ3 => if 0 ≤ (7 : Int) ∧ (7 : Int) < 320 then z_put σ3 1 7 (σ3 0 7) fun σ4 => if 0 ≤ (8 : Int) ∧ (8 : Int) < 320 then z_put σ4 1 8 (σ4 0 8) fun σ5 => f_X6_read_l42 z_fuel σ5 0 else none else none else some ((-100) - r2, σ1) else none := by
    unfold f_X6_read f_X6_wrongAt
    rw [z_put, z_put, z_put, z_put, ← hτ0]
  rcases hj with ⟨b, hb, r1, r2⟩ | ⟨E, r1, r2, r3, r4, r5⟩
  · refine ⟨-100 - b, σ1, τ1, A, ?_, ?_, hA', hC1, hM1⟩
    · rw [ec, r1, z_bd, if_pos (by unfold zr; omega), if_neg (by omega)]
    · rw [em, r2, z_bd, if_pos (by unfold zr; omega), if_neg (by omega)]
  · obtain ⟨d1, d2, d3, d4, d5, d6⟩ := r5
    obtain ⟨σ2, τ2, s1, t1, hh, hC2, hM2, s3, t3⟩ := o_act hA' hC1 hM1
    have hE2 : c_D σ2 E := by
      -- the draft stays
      exact c_D_of r3 (fun a h1 h2 => c_keep40 hC1.2.2 hh0 hC1.2.1 hV s1 a h1 (by omega))
    have hv1 : v_ok (v_1 E) := by
      refine ⟨by show 0 ≤ v_F E ∧ v_F E ≤ 200; omega, d2, d3, fun m m0 m1 => ?_, d5, ?_⟩
      · have h := d4 m m0 m1
        exact ⟨h.1, h.2.1, ⟨h.2.2.1.1, h.2.2.1.2.2 rfl⟩, by show 0 ≤ v_K E 4 m ∧ v_K E 4 m ≤ 1; omega⟩
      · show (0 ≤ (1 : Int) ∧ (1 : Int) ≤ 100) ∧ (0 ≤ (1 : Int) ∧ (1 : Int) ≤ 9) ∧ (0 ≤ (1 : Int) ∧ (1 : Int) ≤ 20) ∧ (0 ≤ (1 : Int) ∧ (1 : Int) ≤ 50) ∧ (0 ≤ (1 : Int) ∧ (1 : Int) ≤ 100) ∧ (0 ≤ (1 : Int) ∧ (1 : Int) ≤ 50) ∧ (0 ≤ (1 : Int) ∧ (1 : Int) ≤ 50)
        omega
    have hE5 : v_C σ2 5 (v_F E, v_M E, v_L E, v_K E, σ2 47) := ⟨hE2.1, hE2.2.1, hE2.2.2.1, hE2.2.2.2, fun i _ _ => rfl⟩
    obtain ⟨σ3, u1, u2, u3, u4⟩ := c_copySound (j := 0) (k := 5) (by omega) hE5 (V := (v_F E, v_M E, v_L E, v_K E, σ2 47)) hv1 (S := v_S (a_V A)) hC2.2.1.2.2.2.2
    have hsS : v_sok (v_S (a_V A)) := hV.2.2.2.2.2
    have hW : v_ok (v_F E, v_M E, v_L E, v_K E, v_S (a_V A)) := ⟨hv1.1, hv1.2.1, hv1.2.2.1, hv1.2.2.2.1, hv1.2.2.2.2.1, hsS⟩
    -- the reference
    have h7 : τ2 0 7 = v_F E := by rw [t3 0 7 (by omega)]; exact r4.1
    have h8 : τ2 0 8 = v_M E := by rw [t3 0 8 (by omega)]; exact r4.2.1
    have hD2 : m_D τ2 E := m_D_of r4 t3 (by omega) (fun b => by omega)
    obtain ⟨τ3, hτ3⟩ : ∃ τ3, τ3 = z_up (z_up τ2 1 7 (v_F E)) 1 8 (v_M E) := ⟨_, rfl⟩
    have x3 : z_ex (fun a _ => a = 1) τ2 τ3 := by
      rw [hτ3]; exact z_ex_up (z_ex_up z_ex_rf rfl) rfl
    have hD3 : m_D τ3 E := m_D_of hD2 x3 (by omega) (fun b => by omega)
    obtain ⟨τ4, w1, w2, w3⟩ := m_read42 (D := E) (by omega) (v_F E).toNat z_fuel 0 τ3 (by unfold z_fuel; omega) (by omega) (by omega) hD3
    have hD4 : m_D τ4 E := m_D_of hD3 w3 (by omega) (fun b => by omega)
    obtain ⟨τ5, y1, y2, y3⟩ := m_read73 (M := v_M E) (F := v_F E) d2 (5 * v_M E).toNat z_fuel 0 τ4 (by unfold z_fuel; omega) (by omega) (by omega) hD4.2.1 hD4.1
    have x25 : z_ex (fun a _ => a = 1) τ2 τ5 := z_ex_tr x3 (z_ex_tr w3 y3)
    have x26 : z_ex (fun a b => a = 1 ∨ (a = 0 ∧ b = 4)) τ2 (z_up τ5 0 4 0) := z_ex_up (z_ex_le x25 (fun a b h => Or.inl h)) (Or.inr ⟨rfl, rfl⟩)
    refine ⟨v_F E, z_up σ3 62 1 0, z_up τ5 0 4 0, (0, a_t A, (v_F E, v_M E, v_L E, v_K E, v_S (a_V A)), (a_keep (a_h A) (a_s A) (a_V A)).1, (a_keep (a_h A) (a_s A) (a_V A)).2), ?_, ?_, ⟨⟨by show (0 : Int) ≤ 0 ∧ (0 : Int) ≤ 120; omega, fun i i0 i1 => by have i1 : i < 0 := i1; omega⟩, hW, hh⟩, ⟨⟨z_re, fun i i0 i1 => by have i1 : i < 0 := i1; omega⟩, ?_, ?_⟩, ⟨⟨z_re, fun i i0 i1 => by have i1 : i < 0 := i1; omega⟩, ?_, ?_⟩⟩
    · rw [ec, r1, z_bd, if_pos (by decide), if_pos rfl, s1, z_bd, u1, z_bd, z_put, z_rn (by omega), show σ3 0 1 = v_F E from u2.1]
    · rw [em, r2, z_bd, if_pos (by decide), if_pos (by omega), t1, z_bd, if_pos (by omega), z_put, if_pos (by omega), z_put, z_rn (by omega), h7, h8, ← hτ3, w1, y1]
    · exact v_C_of u2 (fun a h1 h2 => by funext b; rw [z_rn (by omega)])
    · exact c_H_of hC2.2.2 hh.1.2 (fun a ha => by rw [← u3 a (by omega)]; funext b; rw [z_rn (by omega)])
    · have hr : z_up τ5 0 4 0 1 = τ5 1 := by funext b; rw [z_rn (by omega)]
      rw [hr]
      have hb : ∀ x, τ5 1 x = if 210 ≤ x ∧ x < 210 + 5 * v_M E then τ4 5 (x - 210) else if 10 ≤ x ∧ x < 10 + v_F E then v_L E (x - 10) else if x = 8 then v_M E else if x = 7 then v_F E else τ2 1 x := fun x => by
        rw [y2, w2]
        have g1 : (210 + 0 ≤ x ∧ x < 210 + 5 * v_M E) = (210 ≤ x ∧ x < 210 + 5 * v_M E) := propext (by omega)
        have g2 : (10 + 0 ≤ x ∧ x < 10 + v_F E) = (10 ≤ x ∧ x < 10 + v_F E) := propext (by omega)
        by_cases c1 : 210 ≤ x ∧ x < 210 + 5 * v_M E
        · rw [if_pos (by omega), if_pos c1]
        · rw [if_neg (by omega), if_neg c1]
          by_cases c2 : 10 ≤ x ∧ x < 10 + v_F E
          · rw [if_pos (by omega), if_pos c2]
          · rw [if_neg (by omega), if_neg c2, hτ3]
            by_cases c3 : x = 8
            · rw [if_pos c3, c3, z_re]
            · rw [if_neg c3, z_ri c3]
              by_cases c4 : x = 7
              · rw [if_pos c4, c4, z_re]
              · rw [if_neg c4, z_ri c4]
      refine ⟨?_, ?_, fun i i0 i1 => ?_, fun m m0 m1 => ?_, fun i i0 i1 => ?_⟩
      · rw [hb, if_neg (by omega), if_neg (by omega), if_neg (by omega), if_pos rfl]
      · rw [hb, if_neg (by omega), if_neg (by omega), if_pos rfl]
      · have i1 : i < v_F E := i1
        rw [hb, if_neg (by omega), if_pos (by omega)]
        exact congrArg (v_L E) (by omega)
      · have m1 : m < v_M E := m1
        have hq := hD4.2.2.2 m m0 m1
        rw [hb, hb, hb, hb, hb, if_pos (by omega), if_pos (by omega), if_pos (by omega), if_pos (by omega), if_pos (by omega)]
        rw [show 210 + 5 * m - 210 = 5 * m by omega, show 210 + 5 * m + 1 - 210 = 5 * m + 1 by omega, show 210 + 5 * m + 2 - 210 = 5 * m + 2 by omega, show 210 + 5 * m + 3 - 210 = 5 * m + 3 by omega, show 210 + 5 * m + 4 - 210 = 5 * m + 4 by omega]
        exact hq
      · rw [hb, if_neg (by omega), if_neg (by omega), if_neg (by omega), if_neg (by omega)]
        exact hM2.2.1.2.2.2.2 i i0 i1
    · exact m_H_of hM2.2.2 x26 (by omega) (fun b => by omega)
