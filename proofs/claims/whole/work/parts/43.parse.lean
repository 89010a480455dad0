/-! READ: THE CLASS' SIGNS IN A MARK; THE REFERENCE'S SMALL READERS -/
theorem c_kind {σ : zS} {wr a c : Int} {D : zV} (hP : c_P σ 1 wr D) (hc : zr c) : ∃ σ', c_P σ' (if c = 102 then 2 else 3) wr D ∧ z_pf σ σ' ∧ σ' 59 4 = 0 ∧ σ' 59 5 = 0 ∧ f_X4_takes σ c a = some (if c = 102 ∨ c = 98 ∨ c = 114 ∨ c = 110 then 1 else 0, σ') ∧ ((c = 102 → σ' 59 2 = 0) ∧ (c = 98 → σ' 59 2 = 1) ∧ (c = 114 → σ' 59 2 = 2) ∧ (c = 110 → σ' 59 2 = 3)) := by
  obtain ⟨h1, h6, hD⟩ := hP
  obtain ⟨σ3, hσ3⟩ : ∃ σ3, σ3 = z_up (z_up (z_up σ 59 4 0) 59 5 0) 59 1 3 := ⟨_, rfl⟩
  have e1 : σ3 59 1 = 3 := by rw [hσ3, z_re]
  have e4 : σ3 59 4 = 0 := by rw [hσ3, z_ri (by omega), z_ri (by omega), z_re]
  have e5 : σ3 59 5 = 0 := by rw [hσ3, z_ri (by omega), z_re]
  have e6 : σ3 59 6 = wr := by rw [hσ3, z_ri (by omega), z_ri (by omega), z_ri (by omega)]; exact h6
  have eo : ∀ a, a ≠ 59 → σ3 a = σ a := fun a h => by rw [hσ3]; funext b; rw [z_rn h, z_rn h, z_rn h]
  have ht : ∀ σ' r, (if zr c then if c = 98 then z_put σ3 59 2 1 fun σ8 => some ((1 : Int), σ8) else if c = 102 then z_put σ3 59 2 0 fun σ6 => z_put σ6 59 1 2 fun σ7 => some (1, σ7) else if c = 110 then z_put σ3 59 2 3 fun σ5 => some (1, σ5) else if c = 114 then z_put σ3 59 2 2 fun σ4 => some (1, σ4) else some (0, σ3) else none) = some (r, σ') → (0 ≤ r ∧ r ≤ 1) → f_X4_takes σ c a = some (r, σ') := by
    intro σ' r h hr
    unfold f_X4_takes f_X4_takesKind
    rw [h1, if_pos (by decide), if_neg (by omega), if_pos rfl, z_put, z_put, z_put, ← hσ3, h, z_bd, if_pos hr]
  rw [if_pos hc] at ht
  by_cases a1 : c = 98
  · refine ⟨z_up σ3 59 2 1, ⟨?_, ?_, c_D_of hD (fun a h1 h2 => by rw [z_59 a (by omega), eo a (by omega)])⟩, fun a h1 h2 => by rw [z_59 a h2, eo a h2], by rw [z_ri (by omega)]; exact e4, by rw [z_ri (by omega)]; exact e5, ?_, fun h => by omega, fun _ => z_re, fun h => by omega, fun h => by omega⟩
    · rw [if_neg (by omega), z_ri (by omega)]; exact e1
    · rw [z_ri (by omega)]; exact e6
    · rw [if_pos (show c = 102 ∨ c = 98 ∨ c = 114 ∨ c = 110 by omega)]
      exact ht _ _ (by rw [if_pos a1, z_put]) (by omega)
  · by_cases a2 : c = 102
    · refine ⟨z_up (z_up σ3 59 2 0) 59 1 2, ⟨?_, ?_, c_D_of hD (fun a h1 h2 => by rw [z_59 a (by omega), z_59 a (by omega), eo a (by omega)])⟩, fun a h1 h2 => by rw [z_59 a h2, z_59 a h2, eo a h2], by rw [z_ri (by omega), z_ri (by omega)]; exact e4, by rw [z_ri (by omega), z_ri (by omega)]; exact e5, ?_, fun _ => by rw [z_ri (by omega), z_re], fun h => by omega, fun h => by omega, fun h => by omega⟩
      · rw [if_pos a2, z_re]
      · rw [z_ri (by omega), z_ri (by omega)]; exact e6
      · rw [if_pos (show c = 102 ∨ c = 98 ∨ c = 114 ∨ c = 110 by omega)]
        exact ht _ _ (by rw [if_neg a1, if_pos a2, z_put, z_put]) (by omega)
    · by_cases a3 : c = 110
      · refine ⟨z_up σ3 59 2 3, ⟨?_, ?_, c_D_of hD (fun a h1 h2 => by rw [z_59 a (by omega), eo a (by omega)])⟩, fun a h1 h2 => by rw [z_59 a h2, eo a h2], by rw [z_ri (by omega)]; exact e4, by rw [z_ri (by omega)]; exact e5, ?_, fun h => by omega, fun h => by omega, fun h => by omega, fun _ => z_re⟩
        · rw [if_neg (by omega), z_ri (by omega)]; exact e1
        · rw [z_ri (by omega)]; exact e6
        · rw [if_pos (show c = 102 ∨ c = 98 ∨ c = 114 ∨ c = 110 by omega)]
          exact ht _ _ (by rw [if_neg a1, if_neg a2, if_pos a3, z_put]) (by omega)
      · by_cases a4 : c = 114
        · refine ⟨z_up σ3 59 2 2, ⟨?_, ?_, c_D_of hD (fun a h1 h2 => by rw [z_59 a (by omega), eo a (by omega)])⟩, fun a h1 h2 => by rw [z_59 a h2, eo a h2], by rw [z_ri (by omega)]; exact e4, by rw [z_ri (by omega)]; exact e5, ?_, fun h => by omega, fun h => by omega, fun _ => z_re, fun h => by omega⟩
          · rw [if_neg (by omega), z_ri (by omega)]; exact e1
          · rw [z_ri (by omega)]; exact e6
          · rw [if_pos (show c = 102 ∨ c = 98 ∨ c = 114 ∨ c = 110 by omega)]
            exact ht _ _ (by rw [if_neg a1, if_neg a2, if_neg a3, if_pos a4, z_put]) (by omega)
        · refine ⟨σ3, ⟨?_, e6, c_D_of hD (fun a h1 h2 => eo a (by omega))⟩, fun a h1 h2 => eo a h2, e4, e5, ?_, fun h => by omega, fun h => by omega, fun h => by omega, fun h => by omega⟩
          · rw [if_neg a2]; exact e1
          · rw [if_neg (show ¬ (c = 102 ∨ c = 98 ∨ c = 114 ∨ c = 110) by omega)]
            exact ht _ _ (by rw [if_neg a1, if_neg a2, if_neg a3, if_neg a4]) (by omega)
theorem c_ddig {σ : zS} {wr a c : Int} {D : zV} (hP : c_P σ 2 wr D) (hc : z_dg c) (h5 : 0 ≤ σ 59 5 ∧ σ 59 5 < 3) : ∃ σ', f_X4_takes σ c a = some (1, σ') ∧ c_P σ' 2 wr D ∧ σ' 59 4 = 10 * σ 59 4 + (c - 48) ∧ σ' 59 5 = σ 59 5 + 1 ∧ σ' 59 2 = σ 59 2 ∧ z_pf σ σ' := by
  obtain ⟨h1, h6, hD⟩ := hP
  have hcc := hc
  unfold z_dg at hcc
  have hd := c_isDigit (σ := σ) (c := c) (by unfold zr; omega)
  rw [if_pos hc] at hd
  refine ⟨z_up (z_up σ 59 4 (10 * σ 59 4 + (c - 48))) 59 5 (σ 59 5 + 1), ?_, ⟨by rw [z_ri (by omega), z_ri (by omega)]; exact h1, by rw [z_ri (by omega), z_ri (by omega)]; exact h6, c_D_of hD (fun a h1 h2 => by rw [z_59 a (by omega), z_59 a (by omega)])⟩, by rw [z_ri (by omega), z_re], z_re, by rw [z_ri (by omega), z_ri (by omega)], fun a h1 h2 => by rw [z_59 a h2, z_59 a h2]⟩
  unfold f_X4_takes f_X4_takesDoubt
  rw [h1, if_pos (by decide), if_neg (by omega), if_neg (by omega), if_pos rfl, hd, z_bd, if_pos (by decide), if_neg (by omega), if_pos (by unfold zr; omega), if_neg (by omega), z_put, z_put, z_ri (by omega), z_bd, if_pos (by omega)]
/-- where the first doubt too great stands, behind this one -/
def d_wr (st wr db x : Int) : Int := if st = 2 ∧ 100 < db ∧ wr = -1 then x else wr
theorem c_colon {σ : zS} {st wr a : Int} {D : zV} (hP : c_P σ st wr D) (hst : st = 2 ∨ st = 3) (h5 : st = 2 → 1 ≤ σ 59 5 ∧ σ 59 5 ≤ 3) (h4 : 0 ≤ σ 59 4 ∧ σ 59 4 ≤ 999) (hw : -1 ≤ wr ∧ wr ≤ 120) : ∃ σ', f_X4_takes σ 58 a = some (1, σ') ∧ c_P σ' 4 (d_wr st wr (σ 59 4) (a - σ 59 5)) D ∧ σ' 59 3 = v_F D ∧ σ' 59 2 = σ 59 2 ∧ σ' 59 4 = σ 59 4 ∧ z_pf σ σ' := by
  obtain ⟨h1, h6, hD⟩ := hP
  obtain ⟨σ3, hσ3⟩ : ∃ σ3, σ3 = z_up (z_up σ 59 3 (v_F D)) 59 1 4 := ⟨_, rfl⟩
  have hcol : f_X4_takesColon σ 58 = some (1, σ3) := by
    unfold f_X4_takesColon
    rw [if_pos (by decide), if_pos rfl, z_put, z_put, hD.1, ← hσ3]
  have e1 : σ3 59 1 = 4 := by rw [hσ3, z_re]
  have e2 : σ3 59 2 = σ 59 2 := by rw [hσ3, z_ri (by omega), z_ri (by omega)]
  have e3 : σ3 59 3 = v_F D := by rw [hσ3, z_ri (by omega), z_re]
  have e4 : σ3 59 4 = σ 59 4 := by rw [hσ3, z_ri (by omega), z_ri (by omega)]
  have e5 : σ3 59 5 = σ 59 5 := by rw [hσ3, z_ri (by omega), z_ri (by omega)]
  have e6 : σ3 59 6 = wr := by rw [hσ3, z_ri (by omega), z_ri (by omega)]; exact h6
  have eo : ∀ a, a ≠ 59 → σ3 a = σ a := fun a h => by rw [hσ3]; funext b; rw [z_rn h, z_rn h]
  have hD3 : c_D σ3 D := c_D_of hD (fun a h1 h2 => eo a (by omega))
  rcases hst with rfl | rfl
  · have h5 := h5 rfl
    have hd := c_isDigit (σ := σ) (c := 58) (by decide)
    rw [if_neg (by unfold z_dg; omega)] at hd
    have hT : f_X4_takes σ 58 a = z_bind (if (σ3 59 4) ≤ 100 then f_X4_takesDoubt_b87 σ3 else if zr (σ3 59 6) then if ¬ (σ3 59 6) = (-1) then f_X4_takesDoubt_b87 σ3 else z_put σ3 59 6 (a - (σ3 59 5)) fun σ4 => f_X4_takesDoubt_b87 σ4 else none) fun r6 σ5 => if 0 ≤ r6 ∧ r6 ≤ 1 then some (r6, σ5) else none := by
      unfold f_X4_takes f_X4_takesDoubt f_X4_takesDoubt_b43
      rw [h1, if_pos (by decide), if_neg (by omega), if_neg (by omega), if_pos rfl, hd, z_bd, if_pos (by decide), if_pos rfl, if_pos (by unfold zr; omega), if_neg (by omega), hcol, z_bd, if_pos (by decide), if_pos (by omega), if_pos (by rw [e4]; unfold zr; omega)]
    unfold d_wr f_X4_takesDoubt_b87 at *
    by_cases c1 : 100 < σ 59 4 ∧ wr = -1
    · refine ⟨z_up σ3 59 6 (a - σ 59 5), ?_, ⟨by rw [z_ri (by omega)]; exact e1, by rw [z_re, if_pos ⟨rfl, c1⟩], c_D_of hD3 (fun a h1 h2 => z_59 a (by omega))⟩, by rw [z_ri (by omega)]; exact e3, by rw [z_ri (by omega)]; exact e2, by rw [z_ri (by omega)]; exact e4, fun a h1 h2 => by rw [z_59 a h2, eo a h2]⟩
      rw [hT, e4, if_neg (by omega), e6, if_pos (by unfold zr; omega), if_neg (by omega), z_put, e5, z_bd, if_pos (by omega)]
    · refine ⟨σ3, ?_, ⟨e1, by rw [e6, if_neg (fun h => c1 h.2)], hD3⟩, e3, e2, e4, fun a h1 h2 => eo a h2⟩
      rw [hT, e4]
      by_cases c2 : σ 59 4 ≤ 100
      · rw [if_pos c2, z_bd, if_pos (by omega)]
      · rw [if_neg c2, e6, if_pos (by unfold zr; omega), if_pos (by omega), z_bd, if_pos (by omega)]
  · refine ⟨σ3, ?_, ⟨e1, by rw [e6]; unfold d_wr; rw [if_neg (by omega)], hD3⟩, e3, e2, e4, fun a h1 h2 => eo a h2⟩
    unfold f_X4_takes
    rw [h1, if_pos (by decide), if_neg (by omega), if_neg (by omega), if_neg (by omega), if_pos rfl, hcol, z_bd, if_pos (by omega)]
theorem c_nocolon {σ : zS} {st wr a c : Int} {D : zV} (hP : c_P σ st wr D) (hst : st = 2 ∨ st = 3) (hc : c ≠ 58) (hcr : zr c) (h5 : 0 ≤ σ 59 5 ∧ σ 59 5 ≤ 3) (hd : st = 2 → (σ 59 5 = 3 ∨ ¬ z_dg c)) : f_X4_takes σ c a = some (0, σ) := by
  obtain ⟨h1, h6, hD⟩ := hP
  have hcol : f_X4_takesColon σ c = some (0, σ) := by
    unfold f_X4_takesColon
    rw [if_pos hcr, if_neg hc]
  unfold f_X4_takes
  rcases hst with rfl | rfl
  · have hi := c_isDigit (σ := σ) hcr
    have hB : f_X4_takesDoubt_b43 σ c a = some (0, σ) := by
      unfold f_X4_takesDoubt_b43 f_X4_takesDoubt_b58
      rw [if_pos (by unfold zr; omega)]
      by_cases e : σ 59 5 = 0
      · rw [if_pos e]
      · rw [if_neg e, hcol, z_bd, if_pos (by decide), if_neg (by omega)]
    unfold f_X4_takesDoubt
    rw [h1, if_pos (by decide), if_neg (by omega), if_neg (by omega), if_pos rfl, hi, z_bd]
    by_cases e : z_dg c
    · rw [if_pos e, if_pos (by decide), if_neg (by omega), if_pos (by unfold zr; omega), if_pos (by rcases hd rfl with h | h <;> first | omega | exact absurd e h), hB, z_bd, if_pos (by omega)]
    · rw [if_neg e, if_pos (by decide), if_pos rfl, hB, z_bd, if_pos (by omega)]
  · rw [h1, if_pos (by decide), if_neg (by omega), if_neg (by omega), if_neg (by omega), if_pos rfl, hcol, z_bd, if_pos (by omega)]
theorem c_close {σ : zS} {wr a k f d : Int} {D : zV} (hP : c_P σ 4 wr D) (hD : d_ok D wr a) (ha : a ≤ 200) (hM : v_M D < 20) (hf : 0 ≤ f ∧ f < v_F D) (hl : ∀ m, 0 ≤ m → m < v_M D → v_K D 2 m ≤ f) (h2 : σ 59 2 = k) (h3 : σ 59 3 = f) (h4 : σ 59 4 = d) : ∃ σ', f_X4_takes σ 93 a = some (1, σ') ∧ c_P σ' 0 wr (v_ins D (v_M D) k f (v_F D) d) ∧ z_pf σ σ' := by
  obtain ⟨h1, h6, hc⟩ := hP
  have hd := c_isDigit (σ := σ) (c := 93) (by decide)
  rw [if_neg (by unfold z_dg; omega)] at hd
  obtain ⟨τ, t1, t2, t3⟩ := c_dmark (k := k) (d := d) hc hD hM hf ha hl
  have h59 : τ 59 = σ 59 := t3 59 (by omega) (by omega)
  have hF := hD.1
  refine ⟨z_up τ 59 1 0, ?_, ⟨z_re, by rw [z_ri (by omega), h59]; exact h6, c_D_of t2 (fun a h1 h2 => z_59 a (by omega))⟩, fun a h1 h2 => by rw [z_59 a h2]; exact t3 a (by omega) (by omega)⟩
  unfold f_X4_takes f_X4_takesInside
  rw [h1, if_pos (by decide), if_neg (by omega), if_neg (by omega), if_neg (by omega), if_neg (by omega), hd, z_bd, if_pos (by decide), if_pos rfl, if_pos (by decide), if_neg (by omega), hc.1, h3, if_pos (by unfold zr; omega), if_pos (by omega), h2, h4, t1, z_bd, z_put, z_bd, if_pos (by omega)]
theorem c_noclose {σ : zS} {wr a c : Int} {D : zV} (hP : c_P σ 4 wr D) (hcr : zr c) (hd : ¬ z_dg c) (hF : 0 ≤ v_F D ∧ v_F D ≤ 200) (hc : c ≠ 93 ∨ σ 59 3 = v_F D) (h3 : 0 ≤ σ 59 3 ∧ σ 59 3 ≤ 200) : f_X4_takes σ c a = some (0, σ) := by
  obtain ⟨h1, h6, hD⟩ := hP
  have hi := c_isDigit (σ := σ) hcr
  rw [if_neg hd] at hi
  unfold f_X4_takes f_X4_takesInside f_X4_takesInside_b40
  rw [h1, if_pos (by decide), if_neg (by omega), if_neg (by omega), if_neg (by omega), if_neg (by omega), hi, z_bd, if_pos (by decide), if_pos rfl, if_pos hcr]
  by_cases e : c = 93
  · rw [if_neg (by omega), hD.1, if_pos (by unfold zr; omega), if_neg (by omega), z_bd, if_pos (by omega)]
  · rw [if_pos e, z_bd, if_pos (by omega)]
theorem c_outside {σ : zS} {wr a c : Int} {D : zV} (hP : c_P σ 0 wr D) (hcr : zr c) (hd : ¬ z_dg c) (hM : 0 ≤ v_M D ∧ v_M D ≤ 20) : (c = 91 ∧ v_M D < 20 → ∃ σ', f_X4_takes σ c a = some (1, σ') ∧ c_P σ' 1 wr D ∧ z_pf σ σ') ∧ (¬ (c = 91 ∧ v_M D < 20) → f_X4_takes σ c a = some (0, σ)) := by
  obtain ⟨h1, h6, hD⟩ := hP
  have hi := c_isDigit (σ := σ) hcr
  rw [if_neg hd] at hi
  refine ⟨fun h => ⟨z_up σ 59 1 1, ?_, ⟨z_re, by rw [z_ri (by omega)]; exact h6, c_D_of hD (fun a h1 h2 => z_59 a (by omega))⟩, fun a h1 h2 => z_59 a h2⟩, fun h => ?_⟩
  · unfold f_X4_takes f_X4_takesOutside
    rw [h1, if_pos (by decide), if_pos rfl, hi, z_bd, if_pos (by decide), if_pos rfl, if_pos hcr, if_neg (by omega), hD.2.1, if_pos (by unfold zr; omega), if_pos h.2, z_put, z_bd, if_pos (by omega)]
  · unfold f_X4_takes f_X4_takesOutside f_X4_takesOutside_b38
    rw [h1, if_pos (by decide), if_pos rfl, hi, z_bd, if_pos (by decide), if_pos rfl, if_pos hcr]
    by_cases e : c = 91
    · rw [if_neg (by omega), hD.2.1, if_pos (by unfold zr; omega), if_neg (by omega), z_bd, if_pos (by omega)]
    · rw [if_pos e, z_bd, if_pos (by omega)]
-- the reference's small readers
def m_P (τ : zS) (a wr : Int) (D : zV) : Prop := τ 0 5 = a ∧ τ 0 6 = wr ∧ m_D τ D
theorem m_sign {τ : zS} {a n : Int} {t : Int → Int} (hT : m_T τ n t) (ha : 0 ≤ a ∧ a ≤ n) (hn : n ≤ 120) (h5 : τ 0 5 = a) : f_X6_sign τ = some (if a < n then t a else -1, τ) := by
  unfold f_X6_sign f_X6_sign_b24
  rw [h5, hT.1, if_pos (by unfold zr; omega)]
  by_cases e : a < n
  · rw [if_neg (by omega), if_pos (by omega), if_pos e, hT.2 a ha.1 e]
  · rw [if_pos (by omega), if_neg e]
theorem m_isDig {τ : zS} {a n : Int} {t : Int → Int} (hT : m_T τ n t) (ht : ∀ i, 0 ≤ i → i < n → 32 ≤ t i ∧ t i ≤ 126) (ha : 0 ≤ a ∧ a ≤ n) (hn : n ≤ 120) (h5 : τ 0 5 = a) : f_X6_isDigit τ = some (if a < n ∧ z_dg (t a) then 1 else 0, τ) := by
  unfold f_X6_isDigit
  rw [m_sign hT ha hn h5, z_bd]
  by_cases e : a < n
  · have := ht a ha.1 e
    rw [if_pos e, m_in (by unfold zr; omega) (by decide) (by decide), z_bd]
    by_cases d : z_dg (t a)
    · rw [if_pos (show 48 ≤ t a ∧ t a ≤ 57 from d), if_pos (by omega), if_pos ⟨e, d⟩]
    · rw [if_neg (show ¬ (48 ≤ t a ∧ t a ≤ 57) from d), if_pos (by omega), if_neg (fun h => d h.2)]
  · rw [if_neg e, m_in (by decide) (by decide) (by decide), z_bd, if_neg (show ¬ (48 ≤ (-1 : Int) ∧ (-1 : Int) ≤ 57) by omega), if_pos (show (0:Int) ≤ 0 ∧ (0:Int) ≤ 1 by omega), if_neg (show ¬ (a < n ∧ z_dg (t a)) from fun h => e h.1)]
theorem m_D_of {τ τ' : zS} {P : Nat → Int → Prop} {D : zV} (h : m_D τ D) (hx : z_ex P τ τ') (h1 : ¬ P 0 7 ∧ ¬ P 0 8) (h2 : ∀ b, ¬ P 4 b ∧ ¬ P 5 b) : m_D τ' D := by
  unfold m_D at h ⊢
  rw [hx 0 7 h1.1, hx 0 8 h1.2, z_ex_row hx (fun b => (h2 b).1), z_ex_row hx (fun b => (h2 b).2)]
  exact h
theorem m_takes {τ : zS} {a n wr c : Int} {t : Int → Int} {D : zV} (hT : m_T τ n t) (ht : ∀ i, 0 ≤ i → i < n → 32 ≤ t i ∧ t i ≤ 126) (ha : 0 ≤ a ∧ a ≤ n) (hn : n ≤ 120) (hP : m_P τ a wr D) (hc : 0 ≤ c ∧ c ≤ 126) : ∃ τ', f_X6_takes τ c = some (if a < n ∧ t a = c then 1 else 0, τ') ∧ m_P τ' (if a < n ∧ t a = c then a + 1 else a) wr D ∧ z_ex (fun a b => a = 0 ∧ b = 5) τ τ' := by
  obtain ⟨h5, h6, hD⟩ := hP
  have hs := m_sign hT ha hn h5
  have hx : ∀ v, z_ex (fun a b => a = 0 ∧ b = 5) τ (z_up τ 0 5 v) := fun v => z_ex_up z_ex_rf ⟨rfl, rfl⟩
  have hv : zr (if a < n then t a else -1) := by
    by_cases e : a < n
    · rw [if_pos e]; have := ht a ha.1 e; unfold zr; omega
    · rw [if_neg e]; decide
  unfold f_X6_takes f_X6_takes_b13 f_X6_takes_b28
  rw [hs, z_bd, if_pos ⟨hv, by unfold zr; omega⟩]
  by_cases e : a < n ∧ t a = c
  · refine ⟨z_up τ 0 5 (a + 1), ?_, ⟨by rw [z_re, if_pos e], by rw [z_ri (by omega)]; exact h6, m_D_of hD (hx _) (by omega) (by omega)⟩, hx _⟩
    rw [if_pos e.1, e.2, if_neg (by omega), if_pos (by decide), if_neg (by omega), z_put, h5, if_pos (by omega), if_pos ⟨e.1, rfl⟩]
  · refine ⟨z_up τ 0 5 (a + 0), ?_, ⟨by rw [z_re, if_neg e]; omega, by rw [z_ri (by omega)]; exact h6, m_D_of hD (hx _) (by omega) (by omega)⟩, hx _⟩
    have hne : ¬ (if a < n then t a else -1) = c := by
      by_cases e2 : a < n
      · rw [if_pos e2]; exact fun h => e ⟨e2, h⟩
      · rw [if_neg e2]; omega
    rw [if_pos hne, if_pos (by decide), if_pos rfl, z_put, h5, if_pos (by omega), if_neg e]
