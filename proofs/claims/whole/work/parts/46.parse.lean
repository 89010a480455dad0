/-! READ: THE DOUBT, THE MARK'S HEAD, ALL THE TEXT -/
theorem j_digits {n wr fr : Int} {t : Int → Int} {D : zV} (ht : ∀ i, 0 ≤ i → i < n → 32 ≤ t i ∧ t i ≤ 126) (hn : 0 ≤ n ∧ n ≤ 120) : ∀ (R f fm : Nat) (a i x : Int) (σ τ : zS), (R : Int) = 3 - i → R < fm → 0 ≤ i → i ≤ 3 → 0 ≤ a → a ≤ n → n - a < (f : Int) → 0 ≤ x → (i = 0 → x ≤ 0) → (i = 1 → x ≤ 9) → (i = 2 → x ≤ 99) → x ≤ 999 → c_T σ n t → m_T τ n t → c_P σ 2 wr D → σ 59 4 = x → σ 59 5 = i → m_P τ a wr D → ∃ (i' x' a' : Int) (f' : Nat) (σ' τ' : zS), a' - i' = a - i ∧ (i ≤ i' ∧ i' ≤ 3) ∧ (0 ≤ x' ∧ x' ≤ 999) ∧ a' ≤ n ∧ n - a' < (f' : Int) ∧ f_X4_parse_l19 f σ n a = f_X4_parse_l19 f' σ' n a' ∧ f_X6_doubt_l9 fm τ fr x i = f_X6_doubt_b50 τ' fr x' ∧ c_P σ' 2 wr D ∧ σ' 59 4 = x' ∧ σ' 59 5 = i' ∧ σ' 59 2 = σ 59 2 ∧ m_P τ' a' wr D ∧ (i' = 3 ∨ ¬ (a' < n ∧ z_dg (t a'))) ∧ z_pf σ σ' ∧ z_ex (fun a b => a = 0 ∧ b = 5) τ τ' := by
  intro R
  induction R with
  | zero =>
    intro f fm a i x σ τ hR hfm hi hi3 ha han hf hx x0 x1 x2 x3 hcT hmT hc h4 h5 hm
    obtain ⟨g, rfl⟩ : ∃ g, fm = g + 1 := ⟨fm - 1, by omega⟩
    refine ⟨i, x, a, f, σ, τ, rfl, by omega, by omega, han, hf, rfl, ?_, hc, h4, h5, rfl, hm, Or.inl (by omega), z_pf_rf, z_ex_rf⟩
    show f_X6_doubt_b9 _ τ fr x i = _
    unfold f_X6_doubt_b9
    rw [if_pos (by unfold zr; omega), if_pos (by omega)]
  | succ R ih =>
    intro f fm a i x σ τ hR hfm hi hi3 ha han hf hx x0 x1 x2 x3 hcT hmT hc h4 h5 hm
    obtain ⟨g, rfl⟩ : ∃ g, fm = g + 1 := ⟨fm - 1, by omega⟩
    have hl : f_X6_doubt_l9 (g + 1) τ fr x i = f_X6_doubt_b9 (f_X6_doubt_l9 g) τ fr x i := rfl
    unfold f_X6_doubt_b9 at hl
    rw [if_pos (by unfold zr; omega), if_neg (by omega), m_isDig hmT ht ⟨ha, han⟩ hn.2 hm.1, z_bd] at hl
    by_cases e : a < n ∧ z_dg (t a)
    · rw [if_pos e, if_pos (by decide), if_neg (by omega), m_sign hmT ⟨ha, han⟩ hn.2 hm.1, if_pos e.1, z_bd, z_put, hm.1] at hl
      have hg : 48 ≤ t a ∧ t a ≤ 57 := e.2
      obtain ⟨gf, rfl⟩ : ∃ gf, f = gf + 1 := ⟨f - 1, by omega⟩
      obtain ⟨σ1, c1, c2, c3, c4, c5, c6⟩ := c_ddig (a := a) hc e.2 (by omega)
      have hx1 : z_ex (fun a b => a = 0 ∧ b = 5) τ (z_up τ 0 5 (a + 1)) := z_ex_up z_ex_rf ⟨rfl, rfl⟩
      obtain ⟨i', x', a', f', σ', τ', r1, r2, r3, r4, r5, r6, r7, r8, r9, r10, r11, r12, r13, r14, r15⟩ := ih gf g (a + 1) (i + 1) (10 * x + t a - 48) σ1 (z_up τ 0 5 (a + 1)) (by omega) (by omega) (by omega) (by omega) (by omega) (by omega) (by omega) (by omega) (by omega) (by omega) (by omega) (by omega) (c_T_pf hcT c6) (m_T_ex hmT hx1 (by omega) (fun b => by omega)) c2 (by rw [c3, h4]; omega) (by rw [c4, h5]) ⟨z_re, by rw [z_ri (by omega)]; exact hm.2.1, m_D_of hm.2.2 hx1 (by omega) (fun b => by omega)⟩
      refine ⟨i', x', a', f', σ', τ', by omega, by omega, r3, r4, r5, ?_, by rw [hl]; exact r7, r8, r9, r10, r11.trans c5, r12, r13, z_pf_tr c6 r14, z_ex_tr hx1 r15⟩
      rw [← r6]
      exact c_ok (hcT.2 a ha e.1) ⟨ha, e.1⟩ hn.2 c1
    · rw [if_neg e, if_pos (by decide), if_pos rfl] at hl
      exact ⟨i, x, a, f, σ, τ, rfl, by omega, by omega, han, hf, rfl, hl, hc, h4, h5, rfl, hm, Or.inr e, z_pf_rf, z_ex_rf⟩
/-- the reference's doubt, when its digits are read -/
theorem m_doubt {τ : zS} {n a wr fr x i : Int} {D : zV} (hm : m_P τ a wr D) (hM : 0 ≤ v_M D ∧ v_M D < 20) (hw : -1 ≤ wr ∧ wr ≤ 120) (hx : 0 ≤ x ∧ x ≤ 999) (hi : 0 ≤ i) (hfr : a - i = fr) (ha : 0 ≤ fr ∧ a ≤ n) (hn : n ≤ 120) : ∃ τ', f_X6_doubt_b50 τ fr x = some (if i = 0 then 0 else 1, τ') ∧ m_P τ' a (d_wr 2 wr x fr) D ∧ τ' 5 (5 * v_M D + 3) = x ∧ z_ex (fun a b => (a = 0 ∧ b = 6) ∨ (a = 5 ∧ b = 5 * v_M D + 3)) τ τ' := by
  obtain ⟨h5, h6, h7, h8, hL, hK⟩ := hm
  obtain ⟨w, hw'⟩ : ∃ w, w = d_wr 2 wr x fr := ⟨_, rfl⟩
  obtain ⟨τ1, hτ1⟩ : ∃ τ1, τ1 = z_up τ 5 (5 * v_M D + 3) x := ⟨_, rfl⟩
  have hx1 : z_ex (fun a b => (a = 0 ∧ b = 6) ∨ (a = 5 ∧ b = 5 * v_M D + 3)) τ (z_up τ1 0 6 w) := by
    rw [hτ1]
    exact z_ex_up (z_ex_up z_ex_rf (Or.inr ⟨rfl, rfl⟩)) (Or.inl ⟨rfl, rfl⟩)
  have hb : f_X6_doubt_b86 τ1 fr w = some (if i = 0 then 0 else 1, z_up τ1 0 6 w) := by
    unfold f_X6_doubt_b86 f_X6_doubt_b102
    rw [z_put, z_ri (by omega), show τ1 0 5 = a by rw [hτ1, z_rn (by omega)]; exact h5, if_pos (by unfold zr; omega)]
    by_cases e : i = 0
    · rw [if_pos (by omega), if_pos (by omega), if_pos e]
    · rw [if_neg (by omega), if_pos (by omega), if_neg e]
  have h61 : τ1 0 6 = wr := by rw [hτ1, z_rn (by omega)]; exact h6
  refine ⟨z_up τ1 0 6 w, ?_, ⟨by rw [hx1 0 5 (by omega)]; exact h5, by rw [z_re]; exact hw', by rw [hx1 0 7 (by omega)]; exact h7, by rw [hx1 0 8 (by omega)]; exact h8, fun i i0 i1 => by rw [hx1 4 i (by omega)]; exact hL i i0 i1, fun m m0 m1 => ?_⟩, by rw [z_rn (by omega), hτ1, z_re], hx1⟩
  · unfold f_X6_doubt_b50 f_X6_doubt_b82
    rw [h8, if_pos (by omega), z_put, ← hτ1, h61, if_pos (by unfold zr; omega)]
    unfold d_wr at hw'
    by_cases e : 0 ≤ wr
    · rw [if_pos e]
      rw [if_neg (by omega)] at hw'
      rw [hw'] at hb ⊢
      exact hb
    · rw [if_neg e, if_pos (by unfold zr; omega)]
      by_cases e2 : x ≤ 100
      · rw [if_pos e2]
        rw [if_neg (by omega)] at hw'
        rw [hw'] at hb ⊢
        exact hb
      · rw [if_neg e2]
        rw [if_pos ⟨rfl, by omega, by omega⟩] at hw'
        rw [hw'] at hb ⊢
        exact hb
  · rw [hx1 5 _ (by omega), hx1 5 _ (by omega), hx1 5 _ (by omega), hx1 5 _ (by omega), hx1 5 _ (by omega)]
    exact hK m m0 m1
/-- a mark, behind its bracket -/
theorem j_mark {σ τ : zS} {n a wr : Int} {t : Int → Int} {D : zV} {f : Nat} (ht : ∀ i, 0 ≤ i → i < n → 32 ≤ t i ∧ t i ≤ 126) (hn : 0 ≤ n ∧ n ≤ 120) (ha : 0 ≤ a ∧ a ≤ n) (hf : n - a < (f : Int)) (hcT : c_T σ n t) (hmT : m_T τ n t) (hc : c_P σ 1 wr D) (hm : m_P τ a wr D) (hD : d_ok D wr a) (hM : v_M D < 20) : j_out σ τ n a (f_X4_parse_l19 f σ n a) (f_X6_readsMark τ) := by
  have hw := hD.2.2.2.2.2
  have hMM := hD.2.1
  obtain ⟨g, rfl⟩ : ∃ g, f = g + 1 := ⟨f - 1, by omega⟩
  have hs := m_sign hmT ha hn.2 hm.1
  have h8 : τ 0 8 = v_M D := hm.2.2.2.1
  by_cases e0 : a < n
  · have hta := ht a ha.1 e0
    rw [if_pos e0] at hs
    obtain ⟨σ1, c1, c2, c3, c4, c5, k102, k98, k114, k110⟩ := c_kind (a := a) (c := t a) hc (by unfold zr; omega)
    have hcT1 := c_T_pf hcT c2
    obtain ⟨kk, hkk⟩ : ∃ kk : Int, kk = if t a = 102 then 0 else if t a = 98 then 1 else if t a = 114 then 2 else if t a = 110 then 3 else -9 := ⟨_, rfl⟩
    have hrm : f_X6_readsMark τ = f_X6_readsMark_b54 τ (5 * v_M D) kk := by
      unfold f_X6_readsMark
      have hz : zr (t a) := by unfold zr; omega
      rw [hs, z_bd, if_pos hz, if_pos hz, if_pos hz, if_pos hz, h8]
      by_cases e1 : t a = 102
      · rw [if_neg (by omega), hkk, if_pos e1]
      · rw [if_pos e1]
        by_cases e2 : t a = 98
        · rw [if_neg (by omega), hkk, if_neg e1, if_pos e2]
        · rw [if_pos e2]
          by_cases e3 : t a = 114
          · rw [if_neg (by omega), hkk, if_neg e1, if_neg e2, if_pos e3]
          · rw [if_pos e3]
            by_cases e4 : t a = 110
            · rw [if_neg (by omega), hkk, if_neg e1, if_neg e2, if_neg e3, if_pos e4]
            · rw [if_pos e4, hkk, if_neg e1, if_neg e2, if_neg e3, if_neg e4]
    rw [hrm]
    by_cases e1 : t a = 102 ∨ t a = 98 ∨ t a = 114 ∨ t a = 110
    · rw [if_pos e1] at c5
      have hk : (0 ≤ kk ∧ kk ≤ 3) ∧ (kk = 0 ↔ t a = 102) ∧ σ1 59 2 = kk := by
        rcases e1 with h | h | h | h
        · have e := k102 h
          rw [if_pos h] at hkk
          rw [e, hkk]; omega
        · have e := k98 h
          rw [if_neg (by omega), if_pos h] at hkk
          rw [e, hkk]; omega
        · have e := k114 h
          rw [if_neg (by omega), if_neg (by omega), if_pos h] at hkk
          rw [e, hkk]; omega
        · have e := k110 h
          rw [if_neg (by omega), if_neg (by omega), if_neg (by omega), if_pos h] at hkk
          rw [e, hkk]; omega
      obtain ⟨τ1, hτ1⟩ : ∃ τ1, τ1 = z_up (z_up (z_up (z_up (z_up τ 0 5 (a + 1)) 5 (5 * v_M D) kk) 5 (5 * v_M D + 1) (v_F D)) 5 (5 * v_M D + 3) 0) 5 (5 * v_M D + 4) 0 := ⟨_, rfl⟩
      have x1 : z_ex (fun a b => (a = 0 ∧ b = 5) ∨ (a = 5 ∧ 5 * v_M D ≤ b)) τ τ1 := by
        rw [hτ1]
        exact z_ex_up (z_ex_up (z_ex_up (z_ex_up (z_ex_up z_ex_rf (Or.inl ⟨rfl, rfl⟩)) (Or.inr ⟨rfl, by omega⟩)) (Or.inr ⟨rfl, by omega⟩)) (Or.inr ⟨rfl, by omega⟩)) (Or.inr ⟨rfl, by omega⟩)
      have x1' : z_ex p_P τ τ1 := z_ex_le x1 (fun a b h => by omega)
      have hm1 : m_P τ1 (a + 1) wr D := by
        obtain ⟨h5, h6, h7, h8, hL, hK⟩ := hm
        refine ⟨by rw [hτ1, z_rn (by omega), z_rn (by omega), z_rn (by omega), z_rn (by omega), z_re], by rw [x1 0 6 (by omega)]; exact h6, by rw [x1 0 7 (by omega)]; exact h7, by rw [x1 0 8 (by omega)]; exact h8, fun i i0 i1 => by rw [x1 4 i (by omega)]; exact hL i i0 i1, fun m m0 m1 => ?_⟩
        rw [x1 5 _ (by omega), x1 5 _ (by omega), x1 5 _ (by omega), x1 5 _ (by omega), x1 5 _ (by omega)]
        exact hK m m0 m1
      have hmT1 : m_T τ1 n t := m_T_ex hmT x1 (by omega) (fun b => by omega)
      have q0 : τ1 5 (5 * v_M D) = kk := by rw [hτ1, z_ri (by omega), z_ri (by omega), z_ri (by omega), z_re]
      have q1 : τ1 5 (5 * v_M D + 1) = v_F D := by rw [hτ1, z_ri (by omega), z_ri (by omega), z_re]
      have q3 : τ1 5 (5 * v_M D + 3) = 0 := by rw [hτ1, z_ri (by omega), z_re]
      have q4 : τ1 5 (5 * v_M D + 4) = 0 := by rw [hτ1, z_re]
      have h54 : f_X6_readsMark_b54 τ (5 * v_M D) kk = if ¬ kk = 0 then f_X6_readsMark_b119 τ1 (5 * v_M D) else z_bind (f_X6_doubt τ1) fun r7 σ6 => if zr r7 then if r7 = 0 then f_X6_readsMark_b135 σ6 else f_X6_readsMark_b119 σ6 (5 * v_M D) else none := by
        unfold f_X6_readsMark_b54
        have hz : zr kk := by unfold zr; omega
        have h7 : τ 0 7 = v_F D := hm.2.2.1
        rw [if_pos hz, if_pos (by omega), z_put, if_pos (by omega), z_put, if_pos (by omega), z_put, if_pos (by omega), z_put, if_pos (by omega), z_put, if_pos hz, z_rn (by omega), z_ri (by omega), h7, hm.1, ← hτ1]
      have hcl : f_X4_parse_l19 (g + 1) σ n a = f_X4_parse_l19 g σ1 n (a + 1) := c_ok (hcT.2 a ha.1 e0) ⟨ha.1, e0⟩ hn.2 c5
      rw [h54, hcl]
      by_cases e2 : kk = 0
      · rw [if_neg (by omega)]
        rw [if_pos (hk.2.1.mp e2)] at c1
        obtain ⟨i', x', a', f', σ', τ', r1, r2, r3, r4, r5, r6, r7, r8, r9, r10, r11, r12, r13, r14, r15⟩ := j_digits (fr := a + 1) ht hn 3 g z_fuel (a + 1) 0 0 σ1 τ1 (by omega) (by unfold z_fuel; omega) (by omega) (by omega) (by omega) (by omega) (by omega) (by omega) (by omega) (by omega) (by omega) (by omega) hcT1 hmT1 c1 c3 c4 hm1
        obtain ⟨τ2, d1, d2, d3, d4⟩ := m_doubt (n := n) (fr := a + 1) r12 ⟨hMM.1, hM⟩ hw r3 r2.1 (by omega) (by omega) hn.2
        have x2 : z_ex p_P τ τ2 := z_ex_tr x1' (z_ex_tr (z_ex_le r15 (fun a b h => by omega)) (z_ex_le d4 (fun a b h => by omega)))
        have hmT' : m_T τ' n t := m_T_ex hmT1 r15 (by omega) (fun b => by omega)
        have hmT2 : m_T τ2 n t := m_T_ex hmT' d4 (by omega) (fun b => by omega)
        have p2 : z_pf σ σ' := z_pf_tr c2 r14
        have hdt : f_X6_doubt τ1 = some (if i' = 0 then 0 else 1, τ2) := by
          unfold f_X6_doubt
          rw [hm1.1, r7]
          exact d1
        rw [hdt, z_bd, r6]
        by_cases e3 : i' = 0
        · rw [if_pos e3, if_pos (by decide), if_pos rfl]
          have ea : a' = a + 1 := by omega
          subst ea
          refine Or.inl ⟨a + 1, ?_⟩
          unfold f_X6_readsMark_b135
          obtain ⟨ff, rfl⟩ : ∃ ff, f' = ff + 1 := ⟨f' - 1, by omega⟩
          by_cases e4 : a + 1 < n
          · have hte := ht (a + 1) (by omega) e4
            refine ⟨σ', τ2, c_no ((c_T_pf hcT p2).2 _ (by omega) e4) (by omega) hn.2 (c_nodig r8 (by unfold zr; omega) (by omega) (fun h => ?_)), rfl, d2.1, by omega, p2, x2⟩
            rcases r13 with h' | h'
            · omega
            · exact h' ⟨e4, h⟩
          · have : n = a + 1 := by omega
            subst this
            exact ⟨σ', τ2, by rw [c_end r8 (by omega) hw (by omega), if_neg (by omega)], rfl, d2.1, by omega, p2, x2⟩
        · rw [if_neg e3, if_pos (by decide), if_neg (by omega)]
          refine j_out_of (j_tail (st := 2) (wr := wr) (k := kk) (db := x') (dg := i') (D := D) ht hn (by omega) r5 (c_T_pf hcT p2) hmT2 r8 (Or.inl rfl) (by rw [r11]; exact hk.2.2) hk.1 r9 r3 r10 (by omega) (fun _ => ⟨by omega, r13⟩) (fun h => by omega) (by rw [show a' - i' = a + 1 by omega]; exact d2) (d_le hD (by omega)) hM ?_ ?_ d3 ?_) p2 x2 (by omega)
          · rw [d4 5 _ (by omega), r15 5 _ (by omega)]; exact q0
          · rw [d4 5 _ (by omega), r15 5 _ (by omega)]; exact q1
          · rw [d4 5 _ (by omega), r15 5 _ (by omega)]; exact q4
      · rw [if_pos e2]
        rw [if_neg (fun h => e2 (hk.2.1.mpr h))] at c1
        refine j_out_of (j_tail (st := 3) (wr := wr) (k := kk) (db := 0) (dg := 0) (D := D) ht hn (by omega) (by omega) hcT1 hmT1 c1 (Or.inr rfl) hk.2.2 hk.1 c3 (by omega) c4 (by omega) (fun h => by omega) (fun _ => rfl) ?_ (d_le hD (by omega)) hM q0 q1 q3 q4) c2 x1' (by omega)
        unfold d_wr
        rw [if_neg (by omega)]
        exact hm1
    · rw [if_neg e1] at c5
      have hk9 : kk = -9 := by
        rw [hkk, if_neg (by omega), if_neg (by omega), if_neg (by omega), if_neg (by omega)]
      refine Or.inl ⟨a, σ1, τ, c_no (hcT.2 a ha.1 e0) ⟨ha.1, e0⟩ hn.2 c5, ?_, hm.1, ha, c2, z_ex_rf⟩
      unfold f_X6_readsMark_b54
      rw [hk9, if_pos (by decide), if_neg (by omega)]
  · have : n = a := by omega
    subst this
    rw [if_neg e0] at hs
    refine Or.inl ⟨n, σ, τ, by rw [c_end hc (by omega) hw hn, if_neg (by omega)], ?_, hm.1, ha, z_pf_rf, z_ex_rf⟩
    unfold f_X6_readsMark f_X6_readsMark_b54
    rw [hs, z_bd, if_pos (by decide), if_pos (by decide), if_pos (by decide), if_pos (by decide), if_pos (by decide), if_pos (by decide), if_pos (by decide), if_pos (by decide), if_pos (by decide), if_neg (by decide)]
