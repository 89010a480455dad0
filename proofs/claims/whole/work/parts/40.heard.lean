/-! LENGTH, HEARD, WHERE, CLICKS, SILENCE -/
abbrev q_P (V : zV) : zP := q_res V (q_C V)
theorem q_Pok {V : zV} (hV : v_ok V) : q_pok V (q_P V) (v_F V) := q_res_ok hV (q_kok hV _ _)
theorem c_res {σ : zS} {V : zV} (hC : v_C σ 0 V) (hV : v_ok V) : ∃ σ', f_X5_currentResult σ = some ((), σ') ∧ r_P σ' (q_P V) ∧ r_C σ' (q_C V) ∧ z_out 48 58 σ σ' := by
  have s0 := (v_C0 hC).2.2.2.2 0 (by omega) (by omega)
  have s2 := (v_C0 hC).2.2.2.2 2 (by omega) (by omega)
  have hM := hV.2.1
  obtain ⟨σ1, t1, t2, t3⟩ := c_find hC hV hV.2.2.2.2.2.1 hV.2.2.2.2.2.2.2.1
  obtain ⟨σ2, u1, u2, u3, u4⟩ := c_build hV (v_C_out hC t3 (by omega)) t2 (q_kok hV _ _) hM.2
  refine ⟨σ2, ?_, u2, u3, fun a ha => (u4 a (by omega)).trans (t3 a (by omega))⟩
  unfold f_X5_currentResult
  rw [if_pos (by omega), if_pos (by omega), s0, s2, t1, z_bd, u1, z_bd]
theorem m_res {τ : zS} {V : zV} (hR : v_R (τ 1) V) (hV : v_ok V) : ∃ τ', f_X6_plays τ = some ((), τ') ∧ r_N τ' (q_P V) ∧ r_M τ' (q_C V) ∧ z_ex p_D τ τ' := m_plays hV (v_Q_of hR) hV.2.2.2.2.2.1 hV.2.2.2.2.2.2.2.1
theorem a_C58 {σ σ' : zS} {A : zA} (hA : a_ok A) (hC : a_C σ A) (h : z_out 48 58 σ σ') : a_C σ' A := a_C_of hA hC (fun a ha => h a (by omega))
theorem a_MD {τ τ' : zS} {A : zA} (hM : a_M τ A) (h : z_ex p_D τ τ') : a_M τ' A := a_M_of hM h (by omega) (by omega) (fun b => by omega)
theorem o_length {A : zA} {σ τ : zS} (hA : a_ok A) (hC : a_C σ A) (hM : a_M τ A) : o_eq (f_X5_length σ) (f_X6_length τ) := by
  have hV := hA.2.1
  obtain ⟨σ', s1, s2, s3, s4⟩ := c_res hC.2.1 hV
  obtain ⟨τ', t1, t2, t3, t4⟩ := m_res hM.2.1 hV
  refine ⟨(q_P (a_V A)).1, σ', τ', A, ?_, ?_, hA, a_C58 hA hC s4, a_MD hM t4⟩
  · unfold f_X5_length
    rw [s1, z_bd, s2.1]
  · unfold f_X6_length
    rw [t1, z_bd, t2.1]
theorem o_heard {A : zA} {σ τ : zS} {x c : Int} (hA : a_ok A) (hC : a_C σ A) (hM : a_M τ A) (hx : zr x) (hc : zr c) : o_eq (f_X5_heard σ x c) (f_X6_heard τ x c) := by
  have hV := hA.2.1
  have hF := hV.1
  have hr : q_pok (a_V A) (q_P (a_V A)) (v_F (a_V A)) := q_Pok hV
  have hn := hr.1
  obtain ⟨σ', s1, s2, s3, s4⟩ := c_res hC.2.1 hV
  obtain ⟨τ', t1, t2, t3, t4⟩ := m_res hM.2.1 hV
  have h54 := s2.1
  have h15 := t2.1
  have hi := m_in (σ := τ') hx (show zr 0 by decide) (show zr ((q_P (a_V A)).1 - 1) by unfold zr; omega)
  have hj := m_in (σ := τ') hc (show zr 0 by decide) (show zr 1 by decide)
  have hcc := hc
  have hxx := hx
  unfold zr at hcc hxx
  by_cases a : 0 ≤ x ∧ x < (q_P (a_V A)).1
  · rw [if_pos (by omega)] at hi
    have hs := s2.2 x a.1 a.2
    have ht := t2.2 x a.1 a.2
    by_cases b : 0 ≤ c ∧ c ≤ 1
    · rw [if_pos b] at hj
      refine ⟨if c = 0 then (q_P (a_V A)).2.1 x else (q_P (a_V A)).2.2 x, σ', τ', A, ?_, ?_, hA, a_C58 hA hC s4, a_MD hM t4⟩
      · unfold f_X5_heard f_X5_heard_b47
        rw [s1, z_bd, if_pos hx, if_neg (by omega), h54, if_pos (by unfold zr; omega), if_neg (by omega), if_pos hc, if_neg (by omega), if_pos hc, if_pos (by omega), if_pos hc]
        by_cases d : c = 0
        · rw [if_neg (by omega), if_pos (by omega), if_pos d, hs.1]
        · rw [if_pos d, if_pos (by omega), if_neg d, hs.2]
      · unfold f_X6_heard f_X6_heard_b50
        rw [t1, z_bd, h15, hi, z_bd, if_pos (by decide), if_neg (by omega), hj, z_bd, if_pos (by decide), if_neg (by omega), if_pos hc]
        by_cases d : c = 0
        · rw [if_neg (by omega), if_pos (by omega), if_pos d, ht.1]
        · rw [if_pos d, if_pos (by omega), if_neg d, ht.2]
    · rw [if_neg b] at hj
      refine ⟨-1, σ', τ', A, ?_, ?_, hA, a_C58 hA hC s4, a_MD hM t4⟩
      · unfold f_X5_heard f_X5_heard_b26
        rw [s1, z_bd, if_pos hx, if_neg (by omega), h54, if_pos (by unfold zr; omega), if_neg (by omega), if_pos hc]
        by_cases d : c < 0
        · rw [if_pos d]
        · rw [if_neg d, if_pos hc, if_neg (by omega)]
      · unfold f_X6_heard f_X6_heard_b49 f_X6_heard_b50
        rw [t1, z_bd, h15, hi, z_bd, if_pos (by decide), if_neg (by omega), hj, z_bd, if_pos (by decide), if_pos rfl]
  · rw [if_neg (by omega)] at hi
    refine ⟨-1, σ', τ', A, ?_, ?_, hA, a_C58 hA hC s4, a_MD hM t4⟩
    · unfold f_X5_heard f_X5_heard_b26
      rw [s1, z_bd, if_pos hx]
      by_cases d : x < 0
      · rw [if_pos d]
      · rw [if_neg d, h54, if_pos (by unfold zr; omega), if_pos (by omega)]
    · unfold f_X6_heard f_X6_heard_b49 f_X6_heard_b50
      rw [t1, z_bd, h15, hi, z_bd, if_pos (by decide), if_pos rfl]
/-- the first place of a source, from i on, in n turns -/
def q_wh (r : zP) (f : Int) : Nat → Int → Int
  | 0, _ => -9
  | n + 1, i => if r.2.1 i = f then i else q_wh r f n (i + 1)
theorem q_wh_none {r : zP} {f : Int} : ∀ (n : Nat) (i : Int), (∀ k, i ≤ k → k < i + n → r.2.1 k ≠ f) → q_wh r f n i = -9 := by
  intro n
  induction n with
  | zero => intro i _; rfl
  | succ n ih =>
    intro i h
    unfold q_wh
    rw [if_neg (h i (by omega) (by omega))]
    exact ih (i + 1) (fun k h0 h1 => h k (by omega) (by omega))
theorem c_place_l {σ : zS} {V : zV} {r : zP} {b x : Int} (hs : r_P σ r) (hr : q_pok V r b) (hb : b ≤ 200) (hx : zr x) : ∀ (n f : Nat) (i : Int), n < f → 0 ≤ i → i + n = r.1 → f_X3_placeOfSource_l2 f σ x i = some (q_wh r x n i, σ) := by
  intro n
  have h2 := hs.1
  have hn := hr.1
  unfold zr at hx
  induction n with
  | zero =>
    intro f i hf i0 hi
    obtain ⟨f, rfl⟩ : ∃ k, f = k + 1 := ⟨f - 1, by omega⟩
    show f_X3_placeOfSource_b2 _ σ x i = _
    unfold f_X3_placeOfSource_b2
    rw [h2, if_pos (by unfold zr; omega), if_pos (by omega)]
    rfl
  | succ n ih =>
    intro f i hf i0 hi
    obtain ⟨f, rfl⟩ : ∃ k, f = k + 1 := ⟨f - 1, by omega⟩
    have h1 := (hs.2 i i0 (by omega)).1
    have h3 := (hr.2.1 i i0 (by omega)).2
    show f_X3_placeOfSource_b2 _ σ x i = _
    unfold f_X3_placeOfSource_b2 q_wh
    rw [h2, if_pos (by unfold zr; omega), if_neg (by omega), if_pos (by omega), h1, if_pos (by unfold zr; omega)]
    by_cases a : r.2.1 i = x
    · rw [if_neg (by omega), if_pos a]
    · rw [if_pos a, if_neg a]
      exact ih f (i + 1) (by omega) (by omega) (by omega)
theorem m_where_l {σ : zS} {V : zV} {r : zP} {b x : Int} (hs : r_N σ r) (hr : q_pok V r b) (hb : b ≤ 200) (hx : 0 ≤ x ∧ x < 200) : ∀ (n f : Nat) (i y : Int), n < f → 0 ≤ i → i + n = r.1 → f_X6_where_l28 f σ x y i = some (@ite Int (∀ k, i ≤ k → k < i + n → r.2.1 k ≠ x) (Classical.propDecidable _) y (q_wh r x n i), σ) := by
  intro n
  have h2 := hs.1
  have hn := hr.1
  induction n with
  | zero =>
    intro f i y hf i0 hi
    obtain ⟨f, rfl⟩ : ∃ k, f = k + 1 := ⟨f - 1, by omega⟩
    show f_X6_where_b28 _ σ x y i = _
    unfold f_X6_where_b28
    rw [h2, if_pos (by unfold zr; omega), if_pos (by omega), if_pos (fun k h0 h1 => by omega)]
  | succ n ih =>
    intro f i y hf i0 hi
    obtain ⟨f, rfl⟩ : ∃ k, f = k + 1 := ⟨f - 1, by omega⟩
    have h1 := (hs.2 i i0 (by omega)).1
    have h3 := (hr.2.1 i i0 (by omega)).2
    show f_X6_where_b28 _ σ x y i = _
    unfold f_X6_where_b28 f_X6_where_b51 q_wh
    rw [h2, if_pos (by unfold zr; omega), if_neg (by omega), if_pos (by omega), h1, if_pos (by unfold zr; omega)]
    by_cases a : r.2.1 i = x
    · have hno : ∀ k, i + 1 ≤ k → k < i + 1 + n → r.2.1 k ≠ x := by
        intro k h4 h5 h6
        exact hr.2.2 i k i0 (by omega) (by omega) (by omega) (by rw [a, h6])
      rw [if_neg (by omega), ih f (i + 1) i (by omega) (by omega) (by omega), if_pos hno, if_pos a, if_neg (fun h => h i (by omega) (by omega) a)]
    · rw [if_pos a, ih f (i + 1) y (by omega) (by omega) (by omega), if_neg a]
      by_cases c : ∀ k, i + 1 ≤ k → k < i + 1 + n → r.2.1 k ≠ x
      · rw [if_pos c, if_pos (fun k h0 h1 => by
          by_cases hki : k = i
          · rw [hki]; exact a
          · exact c k (by omega) (by omega))]
      · rw [if_neg c, if_neg (fun h => c (fun k h0 h1 => h k (by omega) (by omega)))]
theorem o_where {A : zA} {σ τ : zS} {x : Int} (hA : a_ok A) (hC : a_C σ A) (hM : a_M τ A) (hx : zr x) : o_eq (f_X5_where σ x) (f_X6_where τ x) := by
  have hV := hA.2.1
  have hF := hV.1
  have hr : q_pok (a_V A) (q_P (a_V A)) (v_F (a_V A)) := q_Pok hV
  have hn := hr.1
  have h7 := hM.2.1.1
  have h := c_hasFrame hC.2.1 hV hx
  have hi := m_in (σ := τ) hx (show zr 0 by decide) (show zr (v_F (a_V A) - 1) by unfold zr; omega)
  by_cases a : 0 ≤ x ∧ x < v_F (a_V A)
  · rw [if_pos a] at h
    rw [if_pos (by omega)] at hi
    obtain ⟨σ', s1, s2, s3, s4⟩ := c_res hC.2.1 hV
    obtain ⟨τ', t1, t2, t3, t4⟩ := m_res hM.2.1 hV
    have hp : f_X3_placeOfSource σ' x = some (q_wh (q_P (a_V A)) x (q_P (a_V A)).1.toNat 0, σ') := c_place_l s2 hr hF.2 hx _ _ _ (by unfold z_fuel; omega) (by omega) (by omega)
    have hw := m_where_l (x := x) t2 hr hF.2 (by omega) (q_P (a_V A)).1.toNat z_fuel 0 (-9) (by unfold z_fuel; omega) (by omega) (by omega)
    refine ⟨q_wh (q_P (a_V A)) x (q_P (a_V A)).1.toNat 0, σ', τ', A, ?_, ?_, hA, a_C58 hA hC s4, a_MD hM t4⟩
    · unfold f_X5_where
      rw [h, z_bd, if_pos (by decide), if_pos (by omega), s1, z_bd, hp, z_bd]
    · unfold f_X6_where
      rw [h7, if_pos (by omega), hi, z_bd, if_pos (by decide), if_pos (by omega), t1, z_bd, hw]
      by_cases b : ∀ k, 0 ≤ k → k < 0 + ((q_P (a_V A)).1.toNat : Int) → (q_P (a_V A)).2.1 k ≠ x
      · rw [if_pos b, q_wh_none _ _ b]
      · rw [if_neg b]
  · rw [if_neg a] at h
    rw [if_neg (by omega)] at hi
    refine ⟨-1, σ, τ, A, ?_, ?_, hA, hC, hM⟩
    · unfold f_X5_where
      rw [h, z_bd, if_pos (by decide), if_neg (by omega)]
    · unfold f_X6_where
      rw [h7, if_pos (by omega), hi, z_bd, if_pos (by decide), if_neg (by omega)]
theorem o_clicks_l {σ τ : zS} {V : zV} {r : zP} {b x : Int} (hs : r_P σ r) (ht : r_N τ r) (hr : q_pok V r b) (hb : b ≤ 200) (hx : 0 ≤ x ∧ x ≤ 9) : ∀ (n f g : Nat) (y i : Int), n < f → n < g → 1 ≤ i → (i + n = r.1 ∨ (n = 0 ∧ r.1 ≤ i ∧ i ≤ 201)) → ∃ z, f_X3_stepsGreaterThan_l4 f σ x y i = some (z, σ) ∧ f_X6_clicks_l20 g τ x y i = some (z, τ) := by
  intro n
  have h54 := hs.1
  have h15 := ht.1
  have hn := hr.1
  induction n with
  | zero =>
    intro f g y i hf hg i1 hi
    obtain ⟨f, rfl⟩ : ∃ k, f = k + 1 := ⟨f - 1, by omega⟩
    obtain ⟨g, rfl⟩ : ∃ k, g = k + 1 := ⟨g - 1, by omega⟩
    refine ⟨y, ?_, ?_⟩
    · show f_X3_stepsGreaterThan_b4 _ σ x y i = _
      unfold f_X3_stepsGreaterThan_b4
      rw [h54, if_pos (by unfold zr; omega), if_pos (by omega)]
    · show f_X6_clicks_b20 _ τ x y i = _
      unfold f_X6_clicks_b20
      rw [h15, if_pos (by unfold zr; omega), if_pos (by omega)]
  | succ n ih =>
    intro f g y i hf hg i1 hi
    obtain ⟨f, rfl⟩ : ∃ k, f = k + 1 := ⟨f - 1, by omega⟩
    obtain ⟨g, rfl⟩ : ∃ k, g = k + 1 := ⟨g - 1, by omega⟩
    have a1 := (hs.2 i (by omega) (by omega)).2
    have a2 := (hs.2 (i - 1) (by omega) (by omega)).2
    have b1 := (ht.2 i (by omega) (by omega)).2
    have b2 := (ht.2 (i - 1) (by omega) (by omega)).2
    have k1 := (hr.2.1 i (by omega) (by omega)).1
    have k2 := (hr.2.1 (i - 1) (by omega) (by omega)).1
    obtain ⟨D, hD⟩ : ∃ D, D = r.2.2 i - r.2.2 (i - 1) := ⟨_, rfl⟩
    obtain ⟨E, hE⟩ : ∃ E, E = (if 0 ≤ D then D else 0 - D) := ⟨_, rfl⟩
    have hE2 : (0 ≤ D ∧ E = D) ∨ (D < 0 ∧ E = 0 - D) := by
      by_cases c : 0 ≤ D
      · rw [if_pos c] at hE; exact Or.inl ⟨c, hE⟩
      · rw [if_neg c] at hE; exact Or.inr ⟨by omega, hE⟩
    by_cases e : E ≤ x
    · obtain ⟨z, z1, z2⟩ := ih f g y (i + 1) (by omega) (by omega) (by omega) (by omega)
      refine ⟨z, ?_, ?_⟩
      · show f_X3_stepsGreaterThan_b4 _ σ x y i = _
        unfold f_X3_stepsGreaterThan_b4 f_X3_stepsGreaterThan_b37
        rw [h54, if_pos (by unfold zr; omega), if_neg (by omega), if_pos (by omega), if_pos (by omega), a1, a2, ← hD, ← hE, if_pos (by unfold zr; omega), if_pos (by unfold zr; omega), if_pos e]
        exact z1
      · show f_X6_clicks_b20 _ τ x y i = _
        unfold f_X6_clicks_b20 f_X6_clicks_b64
        rw [h15, if_pos (by unfold zr; omega), if_neg (by omega), if_pos (by omega), if_pos (by omega), b1, b2, ← hD, if_pos (by unfold zr; omega), if_neg (by omega), if_pos (by unfold zr; omega), if_pos (by omega), show y + 0 = y by omega]
        exact z2
    · obtain ⟨z, z1, z2⟩ := ih f g (y + 1) (i + 1) (by omega) (by omega) (by omega) (by omega)
      refine ⟨z, ?_, ?_⟩
      · show f_X3_stepsGreaterThan_b4 _ σ x y i = _
        unfold f_X3_stepsGreaterThan_b4 f_X3_stepsGreaterThan_b37
        rw [h54, if_pos (by unfold zr; omega), if_neg (by omega), if_pos (by omega), if_pos (by omega), a1, a2, ← hD, ← hE, if_pos (by unfold zr; omega), if_pos (by unfold zr; omega), if_neg e]
        exact z1
      · show f_X6_clicks_b20 _ τ x y i = _
        unfold f_X6_clicks_b20 f_X6_clicks_b59 f_X6_clicks_b64
        rw [h15, if_pos (by unfold zr; omega), if_neg (by omega), if_pos (by omega), if_pos (by omega), b1, b2, ← hD, if_pos (by unfold zr; omega)]
        by_cases c : x < D
        · rw [if_pos c]; exact z2
        · rw [if_neg c, if_pos (by unfold zr; omega), if_neg (by omega)]; exact z2
theorem o_clicks {A : zA} {σ τ : zS} {x : Int} (hA : a_ok A) (hC : a_C σ A) (hM : a_M τ A) (hx : zr x) : o_eq (f_X5_clicks σ x) (f_X6_clicks τ x) := by
  have hV := hA.2.1
  have hF := hV.1
  have hr : q_pok (a_V A) (q_P (a_V A)) (v_F (a_V A)) := q_Pok hV
  have hn := hr.1
  have hxx := hx
  unfold zr at hxx
  have hi := m_in (σ := τ) hx (show zr 0 by decide) (show zr 9 by decide)
  by_cases a : 0 ≤ x ∧ x ≤ 9
  · rw [if_pos a] at hi
    obtain ⟨σ', s1, s2, s3, s4⟩ := c_res hC.2.1 hV
    obtain ⟨τ', t1, t2, t3, t4⟩ := m_res hM.2.1 hV
    obtain ⟨z, z1, z2⟩ := o_clicks_l s2 t2 hr hF.2 a ((q_P (a_V A)).1 - 1).toNat z_fuel z_fuel 0 1 (by unfold z_fuel; omega) (by unfold z_fuel; omega) (by omega) (by omega)
    have z1 : f_X3_stepsGreaterThan σ' x = some (z, σ') := z1
    refine ⟨z, σ', τ', A, ?_, ?_, hA, a_C58 hA hC s4, a_MD hM t4⟩
    · unfold f_X5_clicks
      rw [if_pos hx, if_neg (by omega), if_pos hx, if_pos (by omega), s1, z_bd, z1, z_bd]
    · unfold f_X6_clicks
      rw [hi, z_bd, if_pos (by decide), if_pos (by omega), t1, z_bd]
      exact z2
  · rw [if_neg a] at hi
    refine ⟨-1, σ, τ, A, ?_, ?_, hA, hC, hM⟩
    · unfold f_X5_clicks f_X5_clicks_b10
      rw [if_pos hx]
      by_cases d : x < 0
      · rw [if_pos d]
      · rw [if_neg d, if_pos hx, if_neg (by omega)]
    · unfold f_X6_clicks
      rw [hi, z_bd, if_pos (by decide), if_neg (by omega)]
theorem o_silence_l {σ τ : zS} {V : zV} {r : zP} {b x : Int} (hs : r_P σ r) (ht : r_N τ r) (hr : q_pok V r b) (hb : b ≤ 200) (hx : 0 ≤ x ∧ x ≤ 9) (h11 : τ 1 1 = x) : ∀ (n f g : Nat) (y u i : Int), n < f → n < g → 0 ≤ i → i + n = r.1 → (0 ≤ y ∧ y ≤ 200) → (0 ≤ u ∧ u ≤ i) → ∃ z, f_X3_longestStretchUpTo_l7 f σ x y u i = some (z, σ) ∧ f_X6_silence_l10 g τ y u i = some (z, τ) := by
  intro n
  have h54 := hs.1
  have h15 := ht.1
  have hn := hr.1
  induction n with
  | zero =>
    intro f g y u i hf hg i1 hi hy hu
    obtain ⟨f, rfl⟩ : ∃ k, f = k + 1 := ⟨f - 1, by omega⟩
    obtain ⟨g, rfl⟩ : ∃ k, g = k + 1 := ⟨g - 1, by omega⟩
    refine ⟨y, ?_, ?_⟩
    · show f_X3_longestStretchUpTo_b7 _ σ x y u i = _
      unfold f_X3_longestStretchUpTo_b7
      rw [h54, if_pos (by unfold zr; omega), if_pos (by omega)]
    · show f_X6_silence_b10 _ τ y u i = _
      unfold f_X6_silence_b10
      rw [h15, if_pos (by unfold zr; omega), if_pos (by omega)]
  | succ n ih =>
    intro f g y u i hf hg i1 hi hy hu
    obtain ⟨f, rfl⟩ : ∃ k, f = k + 1 := ⟨f - 1, by omega⟩
    obtain ⟨g, rfl⟩ : ∃ k, g = k + 1 := ⟨g - 1, by omega⟩
    have a1 := (hs.2 i (by omega) (by omega)).2
    have b1 := (ht.2 i (by omega) (by omega)).2
    have k1 := (hr.2.1 i (by omega) (by omega)).1
    have hB : ∀ v : Int, (0 ≤ v ∧ v ≤ i + 1) → ∃ z, f_X3_longestStretchUpTo_b34 (f_X3_longestStretchUpTo_l7 f) σ x y i v = some (z, σ) ∧ f_X6_silence_b40 (f_X6_silence_l10 g) τ y i v = some (z, τ) := by
      intro v hv
      obtain ⟨z, z1, z2⟩ := ih f g (if y < v then v else y) v (i + 1) (by omega) (by omega) (by omega) (by omega) (by split <;> omega) hv
      refine ⟨z, ?_, ?_⟩
      · unfold f_X3_longestStretchUpTo_b34
        rw [if_pos (by unfold zr; omega)]
        exact z1
      · unfold f_X6_silence_b40 f_X6_silence_b51
        rw [if_pos (by unfold zr; omega)]
        by_cases c : y < v
        · rw [if_pos c] at z2
          rw [if_neg (by omega)]; exact z2
        · rw [if_neg c] at z2
          rw [if_pos (by omega)]; exact z2
    by_cases e : x < r.2.2 i
    · obtain ⟨z, z1, z2⟩ := hB 0 (by omega)
      refine ⟨z, ?_, ?_⟩
      · show f_X3_longestStretchUpTo_b7 _ σ x y u i = _
        unfold f_X3_longestStretchUpTo_b7
        rw [h54, if_pos (by unfold zr; omega), if_neg (by omega), if_pos (by omega), a1, if_pos (by unfold zr; omega), if_pos e]
        exact z1
      · show f_X6_silence_b10 _ τ y u i = _
        unfold f_X6_silence_b10
        rw [h15, if_pos (by unfold zr; omega), if_neg (by omega), if_pos (by omega), if_pos (by omega), b1, h11, if_pos (by unfold zr; omega), if_pos e]
        exact z2
    · obtain ⟨z, z1, z2⟩ := hB (u + 1) (by omega)
      refine ⟨z, ?_, ?_⟩
      · show f_X3_longestStretchUpTo_b7 _ σ x y u i = _
        unfold f_X3_longestStretchUpTo_b7
        rw [h54, if_pos (by unfold zr; omega), if_neg (by omega), if_pos (by omega), a1, if_pos (by unfold zr; omega), if_neg e]
        exact z1
      · show f_X6_silence_b10 _ τ y u i = _
        unfold f_X6_silence_b10
        rw [h15, if_pos (by unfold zr; omega), if_neg (by omega), if_pos (by omega), if_pos (by omega), b1, h11, if_pos (by unfold zr; omega), if_neg e]
        exact z2
theorem o_silence {A : zA} {σ τ : zS} (hA : a_ok A) (hC : a_C σ A) (hM : a_M τ A) : o_eq (f_X5_silence σ) (f_X6_silence τ) := by
  have hV := hA.2.1
  have hF := hV.1
  have hr : q_pok (a_V A) (q_P (a_V A)) (v_F (a_V A)) := q_Pok hV
  have hn := hr.1
  obtain ⟨σ', s1, s2, s3, s4⟩ := c_res hC.2.1 hV
  obtain ⟨τ', t1, t2, t3, t4⟩ := m_res hM.2.1 hV
  have hC' := a_C58 hA hC s4
  have hM' := a_MD hM t4
  have c1 := (v_C0 hC'.2.1).2.2.2.2 1 (by omega) (by omega)
  have m1 := hM'.2.1.2.2.2.2 1 (by omega) (by omega)
  have k1 := hV.2.2.2.2.2.2.1
  obtain ⟨z, z1, z2⟩ := o_silence_l s2 t2 hr hF.2 k1 m1 (q_P (a_V A)).1.toNat z_fuel z_fuel 0 0 0 (by unfold z_fuel; omega) (by unfold z_fuel; omega) (by omega) (by omega) (by omega) (by omega)
  have z1 : f_X3_longestStretchUpTo σ' (v_S (a_V A) 1) = some (z, σ') := z1
  refine ⟨z, σ', τ', A, ?_, ?_, hA, hC', hM'⟩
  · unfold f_X5_silence
    rw [s1, z_bd, if_pos (by omega), c1, z1, z_bd]
  · unfold f_X6_silence
    rw [t1, z_bd]
    exact z2
