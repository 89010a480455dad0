/-! READ: FRAMES OF THE REFERENCE, RUNS OF DIGITS -/
theorem d_dig_cons (t : Int → Int) (a : Int) (D : zV) : ∀ k : Nat, d_dig t a D (k + 1) = d_dig t (a + 1) (v_push D (t a - 48)) k := by
  intro k
  induction k with
  | zero => show v_push D (t (a + ((0 : Nat) : Int)) - 48) = _; rw [show a + ((0 : Nat) : Int) = a by omega]; rfl
  | succ k ih =>
    show v_push (d_dig t a D (k + 1)) (t (a + ((k + 1 : Nat) : Int)) - 48) = v_push (d_dig t (a + 1) (v_push D (t a - 48)) k) (t (a + 1 + (k : Int)) - 48)
    rw [ih, show a + ((k + 1 : Nat) : Int) = a + 1 + (k : Int) by omega]
theorem z_drun (t : Int → Int) {n : Int} : ∀ (N : Nat) (a : Int), a ≤ n → n - a ≤ N → ∃ k : Nat, a + k ≤ n ∧ (∀ i : Nat, i < k → z_dg (t (a + i))) ∧ (a + k < n → ¬ z_dg (t (a + k))) := by
  intro N
  induction N with
  | zero => intro a h1 h2; exact ⟨0, by omega, fun i hi => by omega, fun h => by omega⟩
  | succ N ih =>
    intro a h1 h2
    by_cases e : a < n ∧ z_dg (t a)
    · obtain ⟨k, k1, k2, k3⟩ := ih (a + 1) (by omega) (by omega)
      refine ⟨k + 1, by omega, fun i hi => ?_, fun h => ?_⟩
      · cases i with
        | zero => rw [show a + ((0 : Nat) : Int) = a by omega]; exact e.2
        | succ i => rw [show a + ((i + 1 : Nat) : Int) = a + 1 + (i : Int) by omega]; exact k2 i (by omega)
      · rw [show a + ((k + 1 : Nat) : Int) = a + 1 + (k : Int) by omega]; exact k3 (by omega)
    · refine ⟨0, by omega, fun i hi => by omega, fun h => ?_⟩
      rw [show a + ((0 : Nat) : Int) = a by omega] at h ⊢
      exact fun h2 => e ⟨h, h2⟩
abbrev p_Fr (a : Nat) (b : Int) : Prop := a = 4 ∨ (a = 0 ∧ (b = 5 ∨ b = 7))
theorem m_T_ex {τ τ' : zS} {P : Nat → Int → Prop} {n : Int} {t : Int → Int} (h : m_T τ n t) (hx : z_ex P τ τ') (h1 : ¬ P 0 4) (h2 : ∀ b, ¬ P 3 b) : m_T τ' n t := by
  unfold m_T at h ⊢
  rw [hx 0 4 h1, z_ex_row hx h2]
  exact h
theorem m_frames {n wr : Int} {t : Int → Int} (ht : ∀ i, 0 ≤ i → i < n → 32 ≤ t i ∧ t i ≤ 126) (hn : n ≤ 120) : ∀ (k f : Nat) (a : Int) (D : zV) (τ : zS), k < f → 0 ≤ a → a + k ≤ n → (∀ i : Nat, i < k → z_dg (t (a + i))) → (a + k < n → ¬ z_dg (t (a + k))) → m_T τ n t → m_P τ a wr D → 0 ≤ v_F D → v_F D ≤ a → ∃ τ', f_X6_takesFrames_l0 f τ = some ((), τ') ∧ m_P τ' (a + k) wr (d_dig t a D k) ∧ z_ex p_Fr τ τ' := by
  intro k
  induction k with
  | zero =>
    intro f a D τ hf ha hk hd hs hT hP hF hFa
    rw [show a + ((0 : Nat) : Int) = a by omega] at hk hs ⊢
    obtain ⟨g, rfl⟩ : ∃ g, f = g + 1 := ⟨f - 1, by omega⟩
    refine ⟨τ, ?_, hP, z_ex_rf⟩
    show f_X6_takesFrames_b0 _ τ = _
    unfold f_X6_takesFrames_b0
    rw [m_isDig hT ht ⟨ha, hk⟩ hn hP.1, if_neg (show ¬ (a < n ∧ z_dg (t a)) from fun h => hs h.1 h.2), z_bd, if_pos (by decide), if_pos rfl]
  | succ k ih =>
    intro f a D τ hf ha hk hd hs hT hP hF hFa
    obtain ⟨g, rfl⟩ : ∃ g, f = g + 1 := ⟨f - 1, by omega⟩
    have hd0 : z_dg (t a) := by have := hd 0 (by omega); rw [show a + ((0 : Nat) : Int) = a by omega] at this; exact this
    obtain ⟨h5, h6, h7, h8, hL, hM⟩ := hP
    obtain ⟨τ1, hτ1⟩ : ∃ τ1, τ1 = z_up (z_up (z_up τ 4 (v_F D) (t a - 48)) 0 7 (v_F D + 1)) 0 5 (a + 1) := ⟨_, rfl⟩
    have hx1 : z_ex p_Fr τ τ1 := by
      rw [hτ1]
      exact z_ex_up (z_ex_up (z_ex_up z_ex_rf (Or.inl rfl)) (Or.inr ⟨rfl, Or.inr rfl⟩)) (Or.inr ⟨rfl, Or.inl rfl⟩)
    have hP1 : m_P τ1 (a + 1) wr (v_push D (t a - 48)) := by
      refine ⟨by rw [hτ1, z_re], by rw [hx1 0 6 (by omega)]; exact h6, by rw [hτ1, z_ri (by omega), z_re]; rfl, by rw [hx1 0 8 (by omega)]; exact h8, fun i i0 i1 => ?_, fun m m0 m1 => ?_⟩
      · have i1 : i < v_F D + 1 := i1
        show _ = if i = v_F D then _ else v_L D i
        rw [hτ1, z_rn (by omega), z_rn (by omega)]
        by_cases e : i = v_F D
        · rw [if_pos e, e, z_re]
        · rw [if_neg e, z_ri e]; exact hL i i0 (by omega)
      · rw [z_ex_row hx1 (a := 5) (fun b => by omega)]; exact hM m m0 m1
    obtain ⟨τ', u1, u2, u3⟩ := ih g (a + 1) (v_push D (t a - 48)) τ1 (by omega) (by omega) (by omega) (fun i hi => by have := hd (i + 1) (by omega); rw [show a + ((i + 1 : Nat) : Int) = a + 1 + (i : Int) by omega] at this; exact this) (fun h => by have := hs (by omega); rw [show a + ((k + 1 : Nat) : Int) = a + 1 + (k : Int) by omega] at this; exact this) (m_T_ex hT hx1 (by omega) (fun b => by omega)) hP1 (by show 0 ≤ v_F D + 1; omega) (by show v_F D + 1 ≤ a + 1; omega)
    refine ⟨τ', ?_, ?_, z_ex_tr hx1 u3⟩
    · show f_X6_takesFrames_b0 _ τ = _
      unfold f_X6_takesFrames_b0
      rw [m_isDig hT ht ⟨ha, by omega⟩ hn h5, if_pos (show a < n ∧ z_dg (t a) from ⟨by omega, hd0⟩), z_bd, if_pos (by decide), if_neg (by omega), m_sign hT ⟨ha, by omega⟩ hn h5, if_pos (show a < n by omega), z_bd, h7, if_pos (by omega), z_put, z_put, z_rn (by omega), h7, z_put, z_ri (by omega), z_rn (by omega), h5, ← hτ1]
      exact u1
    · rw [d_dig_cons, show a + ((k + 1 : Nat) : Int) = a + 1 + (k : Int) by omega]
      exact u2
/-- no digit of a doubt, and none there -/
theorem c_nodig {σ : zS} {wr a c : Int} {D : zV} (hP : c_P σ 2 wr D) (hcr : zr c) (h5 : σ 59 5 = 0) (hd : ¬ z_dg c) : f_X4_takes σ c a = some (0, σ) := by
  obtain ⟨h1, h6, hD⟩ := hP
  have hi := c_isDigit (σ := σ) hcr
  have hB : f_X4_takesDoubt_b43 σ c a = some (0, σ) := by
    unfold f_X4_takesDoubt_b43 f_X4_takesDoubt_b58
    rw [if_pos (by unfold zr; omega), if_pos h5]
  unfold f_X4_takes f_X4_takesDoubt
  rw [h1, if_pos (by decide), if_neg (by omega), if_neg (by omega), if_pos rfl, hi, z_bd, if_neg hd, if_pos (by decide), if_pos rfl, hB, z_bd, if_pos (by omega)]
theorem c_T_pf {σ σ' : zS} {n : Int} {t : Int → Int} (h : c_T σ n t) (hx : z_pf σ σ') : c_T σ' n t := by
  unfold c_T at h ⊢
  rw [hx 62 (by omega) (by omega), hx 63 (by omega) (by omega)]
  exact h
theorem z_pf_40 {σ σ' : zS} (h : ∀ b, b ≠ 40 → b ≠ 41 → σ' b = σ b) : z_pf σ σ' := fun a h1 _ => h a (by omega) (by omega)
