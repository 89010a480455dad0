/-! WHAT BOTH HOLD; TEXT, APPEND, BABBLE, UNDO -/
-- all that is kept: the buffer's length and its characters, the recording, the history
abbrev zA : Type := Int × (Int → Int) × zV × Int × (Int → zV)
abbrev a_n (A : zA) : Int := A.1
abbrev a_t (A : zA) : Int → Int := A.2.1
abbrev a_V (A : zA) : zV := A.2.2.1
abbrev a_h (A : zA) : Int := A.2.2.2.1
abbrev a_s (A : zA) : Int → zV := A.2.2.2.2
def a_ok (A : zA) : Prop := ((0 ≤ a_n A ∧ a_n A ≤ 120) ∧ ∀ i, 0 ≤ i → i < a_n A → 32 ≤ a_t A i ∧ a_t A i ≤ 126) ∧ v_ok (a_V A) ∧ h_ok (a_h A) (a_s A)
def c_T (σ : zS) (n : Int) (t : Int → Int) : Prop := σ 62 1 = n ∧ ∀ i, 0 ≤ i → i < n → σ 63 i = t i
def a_C (σ : zS) (A : zA) : Prop := c_T σ (a_n A) (a_t A) ∧ v_C σ 0 (a_V A) ∧ c_H σ (a_h A) (a_s A)
theorem c_T_of {σ σ' : zS} {n : Int} {t : Int → Int} (h : c_T σ n t) (h1 : σ' 62 = σ 62) (h2 : σ' 63 = σ 63) : c_T σ' n t := by
  unfold c_T at h ⊢
  rw [h1, h2]; exact h
/-- nothing of what is kept changes: scratch cells alone -/
theorem a_C_of {σ σ' : zS} {A : zA} (hA : a_ok A) (h : a_C σ A) (he : ∀ a, (a ≤ 39 ∨ 60 ≤ a) → σ' a = σ a) : a_C σ' A := ⟨c_T_of h.1 (he 62 (by omega)) (he 63 (by omega)), v_C_of h.2.1 (fun a h1 h2 => he a (by omega)), c_H_of h.2.2 hA.2.2.1.2 (fun a ha => he a (by omega))⟩
-- frames put behind
def v_push (V : zV) (l : Int) : zV := (v_F V + 1, v_M V, fun i => if i = v_F V then l else v_L V i, v_K V, v_S V)
theorem v_push_ok {V : zV} {l : Int} (h : v_ok V) (hF : v_F V < 200) (hl : 0 ≤ l ∧ l ≤ 9) : v_ok (v_push V l) := by
  obtain ⟨h1, h2, h3, h4, h5, h6⟩ := h
  refine ⟨by show 0 ≤ v_F V + 1 ∧ v_F V + 1 ≤ 200; omega, h2, fun i i0 i1 => ?_, fun m m0 m1 => ?_, h5, h6⟩
  · have i1 : i < v_F V + 1 := i1
    show 0 ≤ (if i = v_F V then l else v_L V i) ∧ (if i = v_F V then l else v_L V i) ≤ 9
    by_cases e : i = v_F V
    · rw [if_pos e]; exact hl
    · rw [if_neg e]; exact h3 i i0 (by omega)
  · have h := h4 m m0 m1
    unfold v_mok at h ⊢
    show _ ∧ (_ ∧ _ ∧ v_K V 2 m ≤ v_F V + 1) ∧ _
    exact ⟨h.1, ⟨h.2.1.1, h.2.1.2.1, by omega⟩, h.2.2⟩
theorem c_addFrame {j : Nat} {σ : zS} {V : zV} {l : Int} (hC : v_C σ j V) (hV : v_ok V) (hF : v_F V < 200) : ∃ τ, f_X2_addFrame j σ l = some ((), τ) ∧ v_C τ j (v_push V l) ∧ z_out (8 * j) (8 * j + 1) σ τ := by
  obtain ⟨h1, h2, h3, h4, h5⟩ := hC
  have h0 := hV.1
  refine ⟨z_up (z_up σ (8 * j + 1) (v_F V) l) (8 * j) 1 (v_F V + 1), ?_, ⟨z_re, ?_, fun i i0 i1 => ?_, fun m m0 m1 => ?_, fun i i0 i1 => ?_⟩, z_out_up (z_out_up z_out_rf (by omega) (by omega)) (by omega) (by omega)⟩
  · unfold f_X2_addFrame f_X2_addFrame_b30
    rw [h1, if_pos (by unfold zr; omega), if_neg (by omega), if_pos (by omega), z_put, z_rn (by omega), h1, z_put]
  · rw [z_ri (by omega), z_rn (by omega)]; exact h2
  · have i1 : i < v_F V + 1 := i1
    show _ = if i = v_F V then l else v_L V i
    rw [z_rn (by omega)]
    by_cases e : i = v_F V
    · rw [if_pos e, e, z_re]
    · rw [if_neg e, z_ri e]; exact h3 i i0 (by omega)
  · rw [z_rn (by omega), z_rn (by omega), z_rn (by omega), z_rn (by omega), z_rn (by omega), z_rn (by omega), z_rn (by omega), z_rn (by omega), z_rn (by omega), z_rn (by omega)]
    exact h4 m m0 m1
  · rw [z_rn (by omega), z_rn (by omega)]; exact h5 i i0 i1
theorem z_out01 {σ τ : zS} (h : z_out (8 * 0) (8 * 0 + 1) σ τ) : ∀ a, 2 ≤ a → τ a = σ a := fun a ha => h a (by omega)
