/-! READ: ONE MARK, BOTH WAYS -/
/-- what a mark from a on comes to: both stop at one place, or both stand behind it with one draft -/
def j_out (σ τ : zS) (n a : Int) (rc rm : Option (Int × zS)) : Prop := (∃ b σ' τ', rc = some (b, σ') ∧ rm = some (0, τ') ∧ τ' 0 5 = b ∧ (0 ≤ b ∧ b ≤ n) ∧ z_pf σ σ' ∧ z_ex p_P τ τ') ∨ (∃ b f' σ' τ' wr D, (a < b ∧ b ≤ n) ∧ n - b < ((f' : Nat) : Int) ∧ rc = f_X4_parse_l19 f' σ' n b ∧ rm = some (1, τ') ∧ c_P σ' 0 wr D ∧ m_P τ' b wr D ∧ d_ok D wr b ∧ z_pf σ σ' ∧ z_ex p_P τ τ')
theorem j_out_of {σ τ σ1 τ1 : zS} {n a a1 : Int} {rc rm : Option (Int × zS)} (h : j_out σ1 τ1 n a1 rc rm) (h1 : z_pf σ σ1) (h2 : z_ex p_P τ τ1) (ha : a ≤ a1) : j_out σ τ n a rc rm := by
  rcases h with ⟨b, σ', τ', e1, e2, e3, e4, e5, e6⟩ | ⟨b, f', σ', τ', wr, D, e1, e2, e3, e4, e5, e6, e7, e8, e9⟩
  · exact Or.inl ⟨b, σ', τ', e1, e2, e3, e4, z_pf_tr h1 e5, z_ex_tr h2 e6⟩
  · exact Or.inr ⟨b, f', σ', τ', wr, D, ⟨by omega, e1.2⟩, e2, e3, e4, e5, e6, e7, z_pf_tr h1 e8, z_ex_tr h2 e9⟩
theorem d_wr_ok {st wr db x : Int} (hw : -1 ≤ wr ∧ wr ≤ 120) (hx : 0 ≤ x ∧ x ≤ 120) : (-1 ≤ d_wr st wr db x ∧ d_wr st wr db x ≤ 120) ∧ (st = 2 → d_wr st wr db x = -1 → db ≤ 100) ∧ (d_wr st wr db x = -1 → wr = -1) := by
  unfold d_wr
  by_cases e : st = 2 ∧ 100 < db ∧ wr = -1
  · rw [if_pos e]; omega
  · rw [if_neg e]; refine ⟨hw, fun h1 h2 => ?_, fun h => h⟩; omega
theorem d_wr_D {D : zV} {st wr db x a : Int} (h : d_ok D wr a) (hx : 0 ≤ x ∧ x ≤ 120) : d_ok D (d_wr st wr db x) a := by
  obtain ⟨h1, h2, h3, h4, h5, h6⟩ := h
  have hw := d_wr_ok (st := st) (db := db) h6 hx
  exact ⟨h1, h2, h3, fun m m0 m1 => ⟨(h4 m m0 m1).1, (h4 m m0 m1).2.1, ⟨(h4 m m0 m1).2.2.1.1, (h4 m m0 m1).2.2.1.2.1, fun h => (h4 m m0 m1).2.2.1.2.2 (hw.2.2 h)⟩, (h4 m m0 m1).2.2.2⟩, h5, hw.1⟩
theorem d_ins_ok {D : zV} {wr a k f d : Int} (h : d_ok D wr a) (hM : v_M D < 20) (hk : 0 ≤ k ∧ k ≤ 3) (hf : 0 ≤ f ∧ f < v_F D) (hl : ∀ m, 0 ≤ m → m < v_M D → v_K D 2 m ≤ f) (hd : 0 ≤ d ∧ d ≤ 999 ∧ (wr = -1 → d ≤ 100)) : d_ok (v_ins D (v_M D) k f (v_F D) d) wr (a + 1) := by
  obtain ⟨h1, h2, h3, h4, h5, h6⟩ := h
  obtain ⟨e0, e1, e2, e3, e4⟩ := v_ins_eq (V := D) (p := v_M D) (k := k) (f := f) (t := v_F D) (d := d)
  refine ⟨by show 0 ≤ v_F D ∧ v_F D ≤ a + 1; omega, by show 0 ≤ v_M D + 1 ∧ v_M D + 1 ≤ 20; omega, h3, fun m m0 m1 => ?_, fun m m0 m1 => ?_, h6⟩
  · have m1 : m < v_M D + 1 := m1
    by_cases e : m = v_M D
    · rw [e, e0, e1, e2, e3, e4]
      exact ⟨hk, ⟨hf.1, hf.2, Int.le_refl _⟩, hd, rfl⟩
    · have e' : m < v_M D := by omega
      rw [v_ins_lo e', v_ins_lo e', v_ins_lo e', v_ins_lo e', v_ins_lo e']
      exact h4 m m0 e'
  · have m1 : m + 1 < v_M D + 1 := m1
    have e' : m < v_M D := by omega
    rw [v_ins_lo e']
    by_cases e : m + 1 = v_M D
    · rw [e, e1]; exact hl m m0 e'
    · rw [v_ins_lo (show m + 1 < v_M D by omega)]; exact h5 m m0 (by omega)
/-- from the colon on -/
theorem j_tail {σ τ : zS} {n a wr st k db dg : Int} {t : Int → Int} {D : zV} {f : Nat} (ht : ∀ i, 0 ≤ i → i < n → 32 ≤ t i ∧ t i ≤ 126) (hn : 0 ≤ n ∧ n ≤ 120) (ha : 0 ≤ a ∧ a ≤ n) (hf : n - a < (f : Int)) (hcT : c_T σ n t) (hmT : m_T τ n t) (hc : c_P σ st wr D) (hst : st = 2 ∨ st = 3) (h2 : σ 59 2 = k) (hk : 0 ≤ k ∧ k ≤ 3) (h4 : σ 59 4 = db) (hdb : 0 ≤ db ∧ db ≤ 999) (h5 : σ 59 5 = dg) (hdg : 0 ≤ dg ∧ dg ≤ 3 ∧ dg ≤ a) (hst2 : st = 2 → 1 ≤ dg ∧ (dg = 3 ∨ ¬ (a < n ∧ z_dg (t a)))) (hst3 : st = 3 → db = 0) (hm : m_P τ a (d_wr st wr db (a - dg)) D) (hD : d_ok D wr a) (hM : v_M D < 20) (q0 : τ 5 (5 * v_M D) = k) (q1 : τ 5 (5 * v_M D + 1) = v_F D) (q3 : τ 5 (5 * v_M D + 3) = db) (q4 : τ 5 (5 * v_M D + 4) = 0) : j_out σ τ n a (f_X4_parse_l19 f σ n a) (f_X6_readsMark_b119 τ (5 * v_M D)) := by
  have hw := hD.2.2.2.2.2
  obtain ⟨w1, w2, w3⟩ := d_wr_ok (st := st) (db := db) hw (x := a - dg) (by omega)
  have hD' := d_wr_D (st := st) (db := db) hD (x := a - dg) (by omega)
  obtain ⟨wr', hwr'⟩ : ∃ wr', wr' = d_wr st wr db (a - dg) := ⟨_, rfl⟩
  rw [← hwr'] at hm w1 w2 w3 hD'
  obtain ⟨g, rfl⟩ : ∃ g, f = g + 1 := ⟨f - 1, by omega⟩
  obtain ⟨τ1, m1, m2, m3⟩ := m_takes (c := 58) hmT ht ha hn.2 hm (by omega)
  have m3' : z_ex p_P τ τ1 := z_ex_le m3 (fun a b h => by omega)
  by_cases e0 : a < n
  · have hta := ht a ha.1 e0
    have h63 : σ 63 a = t a := hcT.2 a ha.1 e0
    by_cases e1 : t a = 58
    · -- the colon
      rw [if_pos ⟨e0, e1⟩] at m1
      rw [if_pos ⟨e0, e1⟩] at m2
      obtain ⟨σ1, c1, c2, c3, c4, c5, c6⟩ := c_colon (a := a) hc hst (fun h => by have := hst2 h; omega) (by omega) hw
      rw [h4, h5, ← hwr'] at c2
      have hl : f_X4_parse_l19 (g + 1) σ n a = f_X4_parse_l19 g σ1 n (a + 1) := c_ok (h63.trans e1) ⟨ha.1, e0⟩ hn.2 c1
      have hcT1 := c_T_pf hcT c6
      have hmT1 := m_T_ex hmT m3 (by omega) (fun b => by omega)
      have hd1 := m_isDig hmT1 ht (a := a + 1) (by omega) hn.2 m2.1
      have hF := hD.1
      rw [hl]
      obtain ⟨g1, rfl⟩ : ∃ g1, g = g1 + 1 := ⟨g - 1, by omega⟩
      unfold f_X6_readsMark_b119 f_X6_readsMark_b135
      rw [m1, z_bd, if_pos (by decide), if_neg (by omega), hd1, z_bd]
      by_cases e2 : a + 1 < n ∧ z_dg (t (a + 1))
      · rw [if_pos e2, if_pos (by decide), if_pos (by omega)]
        obtain ⟨K, k1, k2, k3⟩ := z_drun t (n := n) (n - (a + 1)).toNat (a + 1) (by omega) (by omega)
        have hK : 1 ≤ K := by
          rcases Nat.eq_zero_or_pos K with h | h
          · rw [h, show a + 1 + ((0 : Nat) : Int) = a + 1 by omega] at k3
            exact absurd e2.2 (k3 e2.1)
          · exact h
        obtain ⟨τ2, n1, n2, n3⟩ := m_frames ht hn.2 K z_fuel (a + 1) D τ1 (by unfold z_fuel; omega) (by omega) k1 k2 k3 hmT1 m2 hF.1 (by omega)
        obtain ⟨gg, hgg⟩ : ∃ gg, g1 + 1 = gg + 1 + K := ⟨g1 - K, by omega⟩
        obtain ⟨σ2, s1, s2, s3⟩ := c_digs hn.2 (show 0 ≤ a + 1 by omega) (Or.inr rfl) K (gg + 1) σ1 k2 k1 hcT1 c2 (d_le hD' (by omega))
        have hdF := d_dig_F t (a + 1) D K
        have hdO := d_dig_ok (d_le hD' (show a ≤ a + 1 by omega)) K k2
        obtain ⟨D1, hD1⟩ : ∃ D1, D1 = d_dig t (a + 1) D K := ⟨_, rfl⟩
        rw [← hD1] at n2 s2 hdF hdO
        obtain ⟨e, he⟩ : ∃ e, e = a + 1 + (K : Int) := ⟨_, rfl⟩
        rw [← he] at n2 s1 hdO k1 k3
        rw [hgg, s1]
        have n3' : z_ex p_P τ1 τ2 := z_ex_le n3 (fun a b h => by omega)
        have m13 : ∀ b, τ2 5 b = τ 5 b := fun b => by rw [n3 5 b (by omega), m3 5 b (by omega)]
        have t8 : τ2 0 8 = v_M D := by rw [n3 0 8 (by omega), m3 0 8 (by omega)]; exact hm.2.2.2.1
        have t7 : τ2 0 7 = v_F D1 := n2.2.2.1
        have s59 : σ2 59 = σ1 59 := s3 59 (by omega) (by omega)
        have c6' : z_pf σ σ2 := z_pf_tr c6 (z_pf_40 s3)
        obtain ⟨τ3, hτ3⟩ : ∃ τ3, τ3 = z_up (z_up τ2 5 (5 * v_M D + 2) (v_F D1)) 0 8 (v_M D + 1) := ⟨_, rfl⟩
        have x3 : z_ex p_P τ2 τ3 := by
          rw [hτ3]
          exact z_ex_up (z_ex_up z_ex_rf (Or.inr (Or.inl rfl))) (Or.inr (Or.inr ⟨rfl, by omega⟩))
        obtain ⟨D2, hD2⟩ : ∃ D2, D2 = v_ins D1 (v_M D1) k (v_F D) (v_F D1) db := ⟨_, rfl⟩
        have hMD1 : v_M D1 = v_M D := hdF.2.1
        have hl2 : ∀ m, 0 ≤ m → m < v_M D1 → v_K D1 2 m ≤ v_F D := fun m m0 m1 => by
          rw [hdF.2.2]; exact (hD.2.2.2.1 m m0 (by omega)).2.1.2.2
        have hmP3 : m_P τ3 e wr' D2 := by
          refine ⟨by rw [hτ3, z_ri (by omega), z_rn (by omega)]; exact n2.1, by rw [hτ3, z_ri (by omega), z_rn (by omega)]; exact n2.2.1, by rw [hτ3, z_ri (by omega), z_rn (by omega), hD2]; exact t7, by rw [hτ3, z_re, hD2]; show _ = v_M D1 + 1; rw [hMD1], fun i i0 i1 => ?_, fun m m0 m1 => ?_⟩
          · rw [hτ3, z_rn (by omega), z_rn (by omega), hD2]
            rw [hD2] at i1
            exact n2.2.2.2.2.1 i i0 i1
          · rw [hD2] at m1 ⊢
            have m1 : m < v_M D1 + 1 := m1
            by_cases eM : m = v_M D1
            · obtain ⟨v0, v1, v2, v3, v4⟩ := v_ins_eq (V := D1) (p := v_M D1) (k := k) (f := v_F D) (t := v_F D1) (d := db)
              rw [eM, v0, v1, v2, v3, v4, hMD1, hτ3]
              refine ⟨?_, ?_, ?_, ?_, ?_⟩
              · rw [z_rn (by omega), z_ri (by omega), m13]; exact q0
              · rw [z_rn (by omega), z_ri (by omega), m13]; exact q1
              · rw [z_rn (by omega), z_re]
              · rw [z_rn (by omega), z_ri (by omega), m13]; exact q3
              · rw [z_rn (by omega), z_ri (by omega), m13]; exact q4
            · have e' : m < v_M D1 := by omega
              rw [v_ins_lo e', v_ins_lo e', v_ins_lo e', v_ins_lo e', v_ins_lo e', hτ3]
              have hh := n2.2.2.2.2.2 m m0 e'
              refine ⟨?_, ?_, ?_, ?_, ?_⟩
              · rw [z_rn (by omega), z_ri (by omega)]; exact hh.1
              · rw [z_rn (by omega), z_ri (by omega)]; exact hh.2.1
              · rw [z_rn (by omega), z_ri (by omega)]; exact hh.2.2.1
              · rw [z_rn (by omega), z_ri (by omega)]; exact hh.2.2.2.1
              · rw [z_rn (by omega), z_ri (by omega)]; exact hh.2.2.2.2
        have hmT3 : m_T τ3 n t := m_T_ex hmT1 (z_ex_tr n3' x3) (by omega) (fun b => by omega)
        obtain ⟨τ4, y1, y2, y3⟩ := m_takes (c := 93) hmT3 ht (show 0 ≤ e ∧ e ≤ n by omega) hn.2 hmP3 (by omega)
        have y3' : z_ex p_P τ τ4 := z_ex_tr m3' (z_ex_tr n3' (z_ex_tr x3 (z_ex_le y3 (fun a b h => by omega))))
        have hmod : (z_bind (f_X6_takesFrames τ1) fun x σ5 => if 0 ≤ (5 * v_M D + 2) ∧ (5 * v_M D + 2) < 100 then z_put σ5 5 (5 * v_M D + 2) (σ5 0 7) fun σ6 => z_put σ6 0 8 ((σ6 0 8) + 1) fun σ7 => z_bind (f_X6_takes σ7 93) fun r9 σ8 => if 0 ≤ r9 ∧ r9 ≤ 1 then some (r9, σ8) else none else none) = some (if e < n ∧ t e = 93 then 1 else 0, τ4) := by
          unfold f_X6_takesFrames
          have hMM := hD.2.1
          rw [n1, z_bd, if_pos (by omega), z_put, z_put, t7, z_rn (by omega), t8, ← hτ3, y1, z_bd]
          by_cases ee : e < n ∧ t e = 93
          · rw [if_pos ee, if_pos (by omega)]
          · rw [if_neg ee, if_pos (by omega)]
        rw [hmod]
        by_cases ee : e < n ∧ t e = 93
        · rw [if_pos ee] at y2 ⊢
          obtain ⟨σ3, r1, r2, r3⟩ := c_close (a := e) (k := k) (f := v_F D) (d := db) s2 hdO (by omega) (by omega) (by omega) hl2 (by rw [s59, c4]; exact h2) (by rw [s59]; exact c3) (by rw [s59, c5]; exact h4)
          rw [← hD2] at r2
          refine Or.inr ⟨e + 1, gg, σ3, τ4, wr', D2, by omega, by omega, ?_, rfl, r2, y2, ?_, z_pf_tr c6' r3, y3'⟩
          · exact c_ok (by rw [c6' 63 (by omega) (by omega), hcT.2 e (by omega) ee.1]; exact ee.2) (by omega) hn.2 r1
          · rw [hD2]
            refine d_ins_ok hdO (by omega) hk (by omega) hl2 ⟨hdb.1, hdb.2, fun h => ?_⟩
            rcases hst with h' | h'
            · exact w2 h' h
            · have := hst3 h'; omega
        · rw [if_neg ee] at y2 ⊢
          by_cases e3 : e < n
          · have hte := ht e (by omega) e3
            have hcn := c_noclose (a := e) (c := t e) s2 (by unfold zr; omega) (k3 e3) (by omega) (Or.inl (fun h => ee ⟨e3, h⟩)) (by rw [s59, c3]; omega)
            refine Or.inl ⟨e, σ2, τ4, ?_, rfl, y2.1, by omega, c6', y3'⟩
            exact c_no (by rw [c6' 63 (by omega) (by omega), hcT.2 e (by omega) e3]) (by omega) hn.2 hcn
          · have : e = n := by omega
            subst this
            refine Or.inl ⟨e, σ2, τ4, ?_, rfl, y2.1, by omega, c6', y3'⟩
            rw [c_end s2 (by omega) w1 (by omega), if_neg (by omega)]
      · rw [if_neg e2, if_pos (by decide), if_neg (by omega)]
        by_cases e3 : a + 1 < n
        · have hte := ht (a + 1) (by omega) e3
          have hcn := c_noclose (a := a + 1) (c := t (a + 1)) c2 (by unfold zr; omega) (fun h => e2 ⟨e3, h⟩) (by omega) (Or.inr c3) (by rw [c3]; omega)
          refine Or.inl ⟨a + 1, σ1, τ1, ?_, rfl, m2.1, by omega, c6, m3'⟩
          exact c_no (hcT1.2 _ (by omega) e3) (by omega) hn.2 hcn
        · have : n = a + 1 := by omega
          subst this
          refine Or.inl ⟨a + 1, σ1, τ1, ?_, rfl, m2.1, by omega, c6, m3'⟩
          rw [c_end c2 (by omega) w1 (by omega), if_neg (by omega)]
    · have hne : ¬ (a < n ∧ t a = 58) := fun h => e1 h.2
      rw [if_neg hne] at m1 m2
      have hcn := c_nocolon (a := a) (c := t a) hc hst e1 (by unfold zr; omega) (by omega) (fun h => by rw [h5]; rcases (hst2 h).2 with h | h; exact Or.inl h; exact Or.inr (fun h' => h ⟨e0, h'⟩))
      refine Or.inl ⟨a, σ, τ1, c_no h63 ⟨ha.1, e0⟩ hn.2 hcn, ?_, m2.1, ha, z_pf_rf, m3'⟩
      unfold f_X6_readsMark_b119 f_X6_readsMark_b135
      rw [m1, z_bd, if_pos (by decide), if_pos rfl]
  · have : n = a := by omega
    subst this
    rw [if_neg (by omega)] at m1 m2
    refine Or.inl ⟨n, σ, τ1, ?_, ?_, m2.1, ha, z_pf_rf, m3'⟩
    · rw [c_end hc (by omega) hw hn, if_neg (by omega)]
    · unfold f_X6_readsMark_b119 f_X6_readsMark_b135
      rw [m1, z_bd, if_pos (by decide), if_pos rfl]
