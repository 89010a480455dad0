/-! WHAT BOTH HOLD; TEXT, APPEND, BABBLE, UNDO -/
-- all that is kept: the buffer's length and its characters, the recording, the history
abbrev zA : Type := Int × (Int → Int) × zV × Int × (Int → zV)
abbrev a_n (A : zA) : Int := A.1
abbrev a_t (A : zA) : Int → Int := A.2.1
abbrev a_V (A : zA) : zV := A.2.2.1
abbrev a_h (A : zA) : Int := A.2.2.2.1
abbrev a_s (A : zA) : Int → zV := A.2.2.2.2
def a_ok (A : zA) : Prop := ((0 ≤ a_n A ∧ a_n A ≤ 120) ∧ ∀ i, 0 ≤ i → i < a_n A → 32 ≤ a_t A i ∧ a_t A i ≤ 126) ∧ v_ok (a_V A) ∧ h_ok (a_h A) (a_s A)
def c_T (σ : zS) (n : Int) (t : Int → Int) : Prop := σ 62 1 = n ∧ ∀ i, 0 ≤ i → i < n → σ 63 i = t i
def m_T (τ : zS) (n : Int) (t : Int → Int) : Prop := τ 0 4 = n ∧ ∀ i, 0 ≤ i → i < n → τ 3 i = t i
def a_C (σ : zS) (A : zA) : Prop := c_T σ (a_n A) (a_t A) ∧ v_C σ 0 (a_V A) ∧ c_H σ (a_h A) (a_s A)
def a_M (τ : zS) (A : zA) : Prop := m_T τ (a_n A) (a_t A) ∧ v_R (τ 1) (a_V A) ∧ m_H τ (a_h A) (a_s A)
/-- the class and the reference answer alike, and hold the same again -/
def o_eq (fC fM : Option (Int × zS)) : Prop := ∃ (r : Int) (σ' τ' : zS) (A' : zA), fC = some (r, σ') ∧ fM = some (r, τ') ∧ a_ok A' ∧ a_C σ' A' ∧ a_M τ' A'
theorem c_T_of {σ σ' : zS} {n : Int} {t : Int → Int} (h : c_T σ n t) (h1 : σ' 62 = σ 62) (h2 : σ' 63 = σ 63) : c_T σ' n t := by
  unfold c_T at h ⊢
  rw [h1, h2]; exact h
theorem m_T_of {τ τ' : zS} {P : Nat → Int → Prop} {n : Int} {t : Int → Int} (h : m_T τ n t) (hx : z_ex P τ τ') (h1 : ¬ P 0 4) (h2 : ∀ b, ¬ P 3 b) : m_T τ' n t := by
  unfold m_T at h ⊢
  rw [hx 0 4 h1, z_ex_row hx h2]; exact h
theorem m_H_of {τ τ' : zS} {P : Nat → Int → Prop} {hn : Int} {hs : Int → zV} (h : m_H τ hn hs) (hx : z_ex P τ τ') (h1 : ¬ P 0 2) (h2 : ∀ b, ¬ P 2 b) : m_H τ' hn hs := by
  unfold m_H at h ⊢
  rw [hx 0 2 h1, z_ex_row hx h2]; exact h
/-- nothing of what is kept changes: scratch cells alone -/
theorem a_C_of {σ σ' : zS} {A : zA} (hA : a_ok A) (h : a_C σ A) (he : ∀ a, (a ≤ 39 ∨ 60 ≤ a) → σ' a = σ a) : a_C σ' A := ⟨c_T_of h.1 (he 62 (by omega)) (he 63 (by omega)), v_C_of h.2.1 (fun a h1 h2 => he a (by omega)), c_H_of h.2.2 hA.2.2.1.2 (fun a ha => he a (by omega))⟩
theorem a_M_of {τ τ' : zS} {A : zA} {P : Nat → Int → Prop} (h : a_M τ A) (hx : z_ex P τ τ') (h1 : ¬ P 0 4) (h2 : ¬ P 0 2) (h3 : ∀ b, ¬ P 1 b ∧ ¬ P 2 b ∧ ¬ P 3 b) : a_M τ' A := ⟨m_T_of h.1 hx h1 (fun b => (h3 b).2.2), by rw [z_ex_row hx (fun b => (h3 b).1)]; exact h.2.1, m_H_of h.2.2 hx h2 (fun b => (h3 b).2.1)⟩
theorem o_type {A : zA} {σ τ : zS} {x : Int} (hA : a_ok A) (hC : a_C σ A) (hM : a_M τ A) (hx : zr x) : o_eq (f_X5_type σ x) (f_X6_type τ x) := by
  obtain ⟨⟨hn, ht⟩, hV, hh⟩ := hA
  have c1 := hC.1.1
  have m1 := hM.1.1
  have hx' := hx
  unfold zr at hx'
  have hi := m_in (σ := τ) hx (show zr 32 by decide) (show zr 126 by decide)
  by_cases a : 32 ≤ x ∧ x ≤ 126
  · rw [if_pos a] at hi
    by_cases b : a_n A < 120
    · have fC : f_X5_type σ x = some (a_n A + 1, z_up (z_up σ 63 (a_n A) x) 62 1 (a_n A + 1)) := by
        unfold f_X5_type
        rw [if_pos hx, if_neg (by omega), if_pos hx, if_pos (by omega), c1, if_pos (by unfold zr; omega), if_pos b, if_pos (by omega), z_put, z_put, z_re, z_rn (by omega), c1]
      have fM : f_X6_type τ x = some (a_n A + 1, z_up (z_up τ 3 (a_n A) x) 0 4 (a_n A + 1)) := by
        unfold f_X6_type
        rw [hi, z_bd, if_pos (by unfold zr; omega), if_pos (by omega), m1, if_pos (by unfold zr; omega), if_pos (by omega), if_pos (by omega), z_put, z_put, z_re, z_rn (by omega), m1]
      refine ⟨a_n A + 1, _, _, (a_n A + 1, fun i => if i = a_n A then x else a_t A i, a_V A, a_h A, a_s A), fC, fM, ⟨⟨by show 0 ≤ a_n A + 1 ∧ a_n A + 1 ≤ 120; omega, fun i i0 i1 => ?_⟩, hV, hh⟩, ⟨⟨z_re, fun i i0 i1 => ?_⟩, v_C_of hC.2.1 (fun a h1 h2 => by funext b; rw [z_rn (by omega), z_rn (by omega)]), c_H_of hC.2.2 hh.1.2 (fun a ha => by funext b; rw [z_rn (by omega), z_rn (by omega)])⟩, ⟨⟨z_re, fun i i0 i1 => ?_⟩, ?_, ?_⟩⟩
      · have i1 : i < a_n A + 1 := i1
        show 32 ≤ (if i = a_n A then x else a_t A i) ∧ (if i = a_n A then x else a_t A i) ≤ 126
        by_cases e : i = a_n A
        · rw [if_pos e]; exact a
        · rw [if_neg e]; exact ht i i0 (by omega)
      · have i1 : i < a_n A + 1 := i1
        show _ = if i = a_n A then x else a_t A i
        rw [z_rn (by omega)]
        by_cases e : i = a_n A
        · rw [if_pos e, e, z_re]
        · rw [if_neg e, z_ri e]; exact hC.1.2 i i0 (by omega)
      · have i1 : i < a_n A + 1 := i1
        show _ = if i = a_n A then x else a_t A i
        rw [z_rn (by omega)]
        by_cases e : i = a_n A
        · rw [if_pos e, e, z_re]
        · rw [if_neg e, z_ri e]; exact hM.1.2 i i0 (by omega)
      · have e1 : z_up (z_up τ 3 (a_n A) x) 0 4 (a_n A + 1) 1 = τ 1 := by funext b; rw [z_rn (by omega), z_rn (by omega)]
        rw [e1]; exact hM.2.1
      · exact m_H_of hM.2.2 (z_ex_up (z_ex_up (P := fun a b => a = 3 ∨ (a = 0 ∧ b = 4)) z_ex_rf (Or.inl rfl)) (Or.inr ⟨rfl, rfl⟩)) (by omega) (by omega)
    · refine ⟨-3, σ, τ, A, ?_, ?_, ⟨⟨hn, ht⟩, hV, hh⟩, hC, hM⟩
      · unfold f_X5_type
        rw [if_pos hx, if_neg (by omega), if_pos hx, if_pos (by omega), c1, if_pos (by unfold zr; omega), if_neg b]
      · unfold f_X6_type
        rw [hi, z_bd, if_pos (by unfold zr; omega), if_pos (by omega), m1, if_pos (by unfold zr; omega), if_neg (by omega)]
  · rw [if_neg a] at hi
    refine ⟨-1, σ, τ, A, ?_, ?_, ⟨⟨hn, ht⟩, hV, hh⟩, hC, hM⟩
    · unfold f_X5_type f_X5_type_b12
      by_cases b : x < 32
      · rw [if_pos hx, if_pos b]
      · rw [if_pos hx, if_neg b, if_pos hx, if_neg (by omega)]
    · unfold f_X6_type
      rw [hi, z_bd, if_pos (by unfold zr; omega), if_neg (by omega)]
theorem o_clear {A : zA} {σ τ : zS} (hA : a_ok A) (hC : a_C σ A) (hM : a_M τ A) : o_eq (f_X5_clear σ) (f_X6_clear τ) := by
  obtain ⟨⟨hn, ht⟩, hV, hh⟩ := hA
  unfold f_X5_clear f_X6_clear
  rw [z_put, z_put, hC.1.1, hM.1.1]
  refine ⟨a_n A, _, _, (0, a_t A, a_V A, a_h A, a_s A), rfl, rfl, ⟨⟨by show (0 : Int) ≤ 0 ∧ (0 : Int) ≤ 120; omega, fun i i0 i1 => by have i1 : i < 0 := i1; omega⟩, hV, hh⟩, ⟨⟨z_re, fun i i0 i1 => by have i1 : i < 0 := i1; omega⟩, v_C_of hC.2.1 (fun a h1 h2 => by funext b; rw [z_rn (by omega)]), c_H_of hC.2.2 hh.1.2 (fun a ha => by funext b; rw [z_rn (by omega)])⟩, ⟨⟨z_re, fun i i0 i1 => by have i1 : i < 0 := i1; omega⟩, ?_, ?_⟩⟩
  · have e1 : z_up τ 0 4 0 1 = τ 1 := by funext b; rw [z_rn (by omega)]
    rw [e1]; exact hM.2.1
  · exact m_H_of hM.2.2 (z_ex_up (P := fun a b => a = 0 ∧ b = 4) z_ex_rf ⟨rfl, rfl⟩) (by omega) (by omega)
theorem o_undo {A : zA} {σ τ : zS} (hA : a_ok A) (hC : a_C σ A) (hM : a_M τ A) : o_eq (f_X5_undo σ) (f_X6_undo τ) := by
  obtain ⟨⟨hn, ht⟩, hV, hh⟩ := hA
  have c1 := hC.2.2.1
  have m1 := hM.2.2.1
  by_cases a : a_h A = 0
  · refine ⟨-9, σ, τ, A, ?_, ?_, ⟨⟨hn, ht⟩, hV, hh⟩, hC, hM⟩
    · unfold f_X5_undo
      rw [c1, if_pos (by unfold zr; omega), if_neg (by omega)]
    · unfold f_X6_undo
      rw [m1, if_pos (by unfold zr; omega), if_neg (by omega)]
  · have h0 : 0 < a_h A := by have := hh.1; omega
    obtain ⟨σ', s1, s2, s3, s4⟩ := c_restore hC.2.2 hh h0
    obtain ⟨τ', t1, t2, t3, t4⟩ := m_undo hM.2.2 hh h0
    refine ⟨a_h A - 1, σ', τ', (a_n A, a_t A, a_s A (a_h A - 1), a_h A - 1, a_s A), ?_, t1, ⟨⟨hn, ht⟩, hh.2 (a_h A - 1) (by omega) (by omega), ⟨by show 0 ≤ a_h A - 1 ∧ a_h A - 1 ≤ 4; have := hh.1; omega, fun i i0 i1 => hh.2 i i0 (by have i1 : i < a_h A - 1 := i1; omega)⟩⟩, ⟨c_T_of hC.1 (s4 62 (by omega)) (s4 63 (by omega)), s2, s3⟩, ⟨m_T_of hM.1 t4 (by omega) (by omega), t2, t3⟩⟩
    unfold f_X5_undo
    rw [c1, if_pos (by have := hh.1; unfold zr; omega), if_pos (by omega), s1, z_bd, s3.1]
-- frames put behind
def v_push (V : zV) (l : Int) : zV := (v_F V + 1, v_M V, fun i => if i = v_F V then l else v_L V i, v_K V, v_S V)
theorem v_push_ok {V : zV} {l : Int} (h : v_ok V) (hF : v_F V < 200) (hl : 0 ≤ l ∧ l ≤ 9) : v_ok (v_push V l) := by
  obtain ⟨h1, h2, h3, h4, h5, h6⟩ := h
  refine ⟨by show 0 ≤ v_F V + 1 ∧ v_F V + 1 ≤ 200; omega, h2, fun i i0 i1 => ?_, fun m m0 m1 => ?_, h5, h6⟩
  · have i1 : i < v_F V + 1 := i1
    show 0 ≤ (if i = v_F V then l else v_L V i) ∧ (if i = v_F V then l else v_L V i) ≤ 9
    by_cases e : i = v_F V
    · rw [if_pos e]; exact hl
    · rw [if_neg e]; exact h3 i i0 (by omega)
  · have h := h4 m m0 m1
    unfold v_mok at h ⊢
    show _ ∧ (_ ∧ _ ∧ v_K V 2 m ≤ v_F V + 1) ∧ _
    exact ⟨h.1, ⟨h.2.1.1, h.2.1.2.1, by omega⟩, h.2.2⟩
theorem c_addFrame {j : Nat} {σ : zS} {V : zV} {l : Int} (hC : v_C σ j V) (hV : v_ok V) (hF : v_F V < 200) : ∃ τ, f_X2_addFrame j σ l = some ((), τ) ∧ v_C τ j (v_push V l) ∧ z_out (8 * j) (8 * j + 1) σ τ := by
  obtain ⟨h1, h2, h3, h4, h5⟩ := hC
  have h0 := hV.1
  refine ⟨z_up (z_up σ (8 * j + 1) (v_F V) l) (8 * j) 1 (v_F V + 1), ?_, ⟨z_re, ?_, fun i i0 i1 => ?_, fun m m0 m1 => ?_, fun i i0 i1 => ?_⟩, z_out_up (z_out_up z_out_rf (by omega) (by omega)) (by omega) (by omega)⟩
  · unfold f_X2_addFrame f_X2_addFrame_b30
    rw [h1, if_pos (by unfold zr; omega), if_neg (by omega), if_pos (by omega), z_put, z_rn (by omega), h1, z_put]
  · rw [z_ri (by omega), z_rn (by omega)]; exact h2
  · have i1 : i < v_F V + 1 := i1
    show _ = if i = v_F V then l else v_L V i
    rw [z_rn (by omega)]
    by_cases e : i = v_F V
    · rw [if_pos e, e, z_re]
    · rw [if_neg e, z_ri e]; exact h3 i i0 (by omega)
  · rw [z_rn (by omega), z_rn (by omega), z_rn (by omega), z_rn (by omega), z_rn (by omega), z_rn (by omega), z_rn (by omega), z_rn (by omega), z_rn (by omega), z_rn (by omega)]
    exact h4 m m0 m1
  · rw [z_rn (by omega), z_rn (by omega)]; exact h5 i i0 i1
theorem m_push {f : Int → Int} {V : zV} {l : Int} (hR : v_R f V) (hV : v_ok V) (hF : v_F V < 200) {g : Int → Int} (hg : ∀ x, g x = if x = 7 then v_F V + 1 else if x = 10 + v_F V then l else f x) : v_R g (v_push V l) := by
  obtain ⟨h1, h2, h3, h4, h5⟩ := hR
  have h0 := hV.1
  have hM := hV.2.1
  refine ⟨by rw [hg, if_pos rfl]; rfl, by rw [hg, if_neg (by omega), if_neg (by omega)]; exact h2, fun i i0 i1 => ?_, fun m m0 m1 => ?_, fun i i0 i1 => by rw [hg, if_neg (by omega), if_neg (by omega)]; exact h5 i i0 i1⟩
  · have i1 : i < v_F V + 1 := i1
    show _ = if i = v_F V then l else v_L V i
    rw [hg, if_neg (by omega)]
    by_cases e : i = v_F V
    · rw [if_pos e, if_pos (by omega)]
    · rw [if_neg e, if_neg (by omega)]; exact h3 i i0 (by omega)
  · have m1 : m < v_M V := m1
    rw [hg, if_neg (by omega), if_neg (by omega), hg, if_neg (by omega), if_neg (by omega), hg, if_neg (by omega), if_neg (by omega), hg, if_neg (by omega), if_neg (by omega), hg, if_neg (by omega), if_neg (by omega)]
    exact h4 m m0 m1
theorem z_out01 {σ τ : zS} (h : z_out (8 * 0) (8 * 0 + 1) σ τ) : ∀ a, 2 ≤ a → τ a = σ a := fun a ha => h a (by omega)
theorem o_append_l {A : zA} {l c : Int} (hl : 0 ≤ l ∧ l ≤ 9) (hc : c ≤ 200) (hn : 0 ≤ a_n A ∧ a_n A ≤ 120) (ht : ∀ i, 0 ≤ i → i < a_n A → 32 ≤ a_t A i ∧ a_t A i ≤ 126) (hh : h_ok (a_h A) (a_s A)) : ∀ (n f f' : Nat) (i : Int) (V : zV) (σ τ : zS), n < f → n < f' → 0 ≤ i → i + n = c → v_ok V → v_F V + n ≤ 200 → a_C σ (a_n A, a_t A, V, a_h A, a_s A) → a_M τ (a_n A, a_t A, V, a_h A, a_s A) → o_eq (f_X5_append_l55 f σ l c i) (f_X6_append_l47 f' τ l c i) := by
  intro n
  induction n with
  | zero =>
    intro f f' i V σ τ hf hf' i0 hi hV hF hC hM
    obtain ⟨f, rfl⟩ : ∃ k, f = k + 1 := ⟨f - 1, by omega⟩
    obtain ⟨f', rfl⟩ : ∃ k, f' = k + 1 := ⟨f' - 1, by omega⟩
    refine ⟨v_F V, σ, τ, (a_n A, a_t A, V, a_h A, a_s A), ?_, ?_, ⟨⟨hn, ht⟩, hV, hh⟩, hC, hM⟩
    · unfold f_X5_append_l55 f_X5_append_b55
      rw [if_pos (by unfold zr; omega), if_pos (by omega), (v_C0 hC.2.1).1]
    · unfold f_X6_append_l47 f_X6_append_b47
      rw [if_pos (by unfold zr; omega), if_pos (by omega), if_pos (by omega), hM.2.1.1]
  | succ n ih =>
    intro f f' i V σ τ hf hf' i0 hi hV hF hC hM
    obtain ⟨f, rfl⟩ : ∃ k, f = k + 1 := ⟨f - 1, by omega⟩
    obtain ⟨f', rfl⟩ : ∃ k, f' = k + 1 := ⟨f' - 1, by omega⟩
    have h0 := hV.1
    have h7 := hM.2.1.1
    have h7 : τ 1 7 = v_F V := h7
    obtain ⟨σ', s1, s2, s3⟩ := c_addFrame (l := l) hC.2.1 hV (by show v_F V < 200; omega)
    have s4 := z_out01 s3
    have x1 : z_ex (fun a _ => a = 1) τ (z_up (z_up τ 1 (10 + v_F V) l) 1 7 (v_F V + 1)) := z_ex_up (z_ex_up z_ex_rf rfl) rfl
    have := ih f f' (i + 1) (v_push V l) σ' (z_up (z_up τ 1 (10 + v_F V) l) 1 7 (v_F V + 1)) (by omega) (by omega) (by omega) (by omega) (v_push_ok hV (by omega) hl) (by show v_F V + 1 + n ≤ 200; omega) ⟨c_T_of hC.1 (s4 62 (by omega)) (s4 63 (by omega)), s2, c_H_of hC.2.2 hh.1.2 (fun a ha => s4 a (by omega))⟩ ⟨m_T_of hM.1 x1 (by omega) (by omega), m_push hM.2.1 hV (by show v_F V < 200; omega) (fun x => ?_), m_H_of hM.2.2 x1 (by omega) (by omega)⟩
    · have fC : f_X5_append_l55 (f + 1) σ l c i = f_X5_append_l55 f σ' l c (i + 1) := by
        show f_X5_append_b55 (f_X5_append_l55 f) σ l c i = _
        unfold f_X5_append_b55
        rw [if_pos (by unfold zr; omega), if_neg (by omega), s1, z_bd]
      have fM : f_X6_append_l47 (f' + 1) τ l c i = f_X6_append_l47 f' (z_up (z_up τ 1 (10 + v_F V) l) 1 7 (v_F V + 1)) l c (i + 1) := by
        show f_X6_append_b47 (f_X6_append_l47 f') τ l c i = _
        unfold f_X6_append_b47
        rw [if_pos (by unfold zr; omega), if_neg (by omega), if_pos (by omega), h7, if_pos (by omega), z_put, if_pos (by omega), if_pos (by omega), z_put, z_ri (by omega), h7]
      rw [fC, fM]
      exact this
    · show z_up (z_up τ 1 (10 + v_F V) l) 1 7 (v_F V + 1) 1 x = if x = 7 then v_F V + 1 else if x = 10 + v_F V then l else τ 1 x
      by_cases e : x = 7
      · rw [if_pos e, e, z_re]
      · rw [if_neg e, z_ri e]
        by_cases e2 : x = 10 + v_F V
        · rw [if_pos e2, e2, z_re]
        · rw [if_neg e2, z_ri e2]
/-- an act of both: the state before is kept -/
theorem o_act {A : zA} {σ τ : zS} (hA : a_ok A) (hC : a_C σ A) (hM : a_M τ A) : ∃ (σ' τ' : zS), f_X1_keep 0 σ = some ((), σ') ∧ f_X6_act τ = some ((), τ') ∧ h_ok (a_keep (a_h A) (a_s A) (a_V A)).1 (a_keep (a_h A) (a_s A) (a_V A)).2 ∧ a_C σ' (a_n A, a_t A, a_V A, (a_keep (a_h A) (a_s A) (a_V A)).1, (a_keep (a_h A) (a_s A) (a_V A)).2) ∧ a_M τ' (a_n A, a_t A, a_V A, (a_keep (a_h A) (a_s A) (a_V A)).1, (a_keep (a_h A) (a_s A) (a_V A)).2) ∧ z_out 8 61 σ σ' ∧ z_ex p_H τ τ' := by
  obtain ⟨⟨hn, ht⟩, hV, hh⟩ := hA
  obtain ⟨σ', s1, s2, s3⟩ := c_keep hC.2.2 hh hC.2.1 hV
  obtain ⟨τ', t1, t2, t3⟩ := m_act hM.2.2 hh hM.2.1 hV
  exact ⟨σ', τ', s1, t1, a_keep_ok hh hV, ⟨c_T_of hC.1 (s3 62 (by omega)) (s3 63 (by omega)), v_C_out hC.2.1 s3 (by omega), s2⟩, ⟨m_T_of hM.1 t3 (by omega) (by omega), by rw [z_ex_row t3 (by omega)]; exact hM.2.1, t2⟩, s3, t3⟩
theorem o_append {A : zA} {σ τ : zS} {x y : Int} (hA : a_ok A) (hC : a_C σ A) (hM : a_M τ A) (hx : zr x) (hy : zr y) : o_eq (f_X5_append σ x y) (f_X6_append τ x y) := by
  obtain ⟨σ', τ', s1, t1, hh, hC', hM', s3, t3⟩ := o_act hA hC hM
  have hA' := hA
  obtain ⟨⟨hn, ht⟩, hV, hh0⟩ := hA
  have hF := hV.1
  have hx' := hx
  have hy' := hy
  unfold zr at hx' hy'
  have h1 := (v_C0 hC.2.1).1
  have h7 := hM.2.1.1
  have hi := m_in (σ := τ) hx (show zr 0 by decide) (show zr 9 by decide)
  have hj := m_in (σ := τ) hy (show zr 1 by decide) (show zr 200 by decide)
  by_cases a : 0 ≤ x ∧ x ≤ 9
  · rw [if_pos a] at hi
    by_cases b : 1 ≤ y ∧ y ≤ 200
    · rw [if_pos b] at hj
      by_cases c : v_F (a_V A) + y ≤ 200
      · have fC : f_X5_append σ x y = f_X5_append_l55 z_fuel σ' x y 0 := by
          unfold f_X5_append
          rw [if_pos hx, if_neg (by omega), if_pos hx, if_neg (by omega), if_pos hy, if_neg (by omega), if_pos hy, if_pos (by omega), h1, if_pos (by unfold zr; omega), if_pos c, s1, z_bd]
        have fM : f_X6_append τ x y = f_X6_append_l47 z_fuel τ' x y 0 := by
          unfold f_X6_append
          rw [hi, z_bd, if_pos (by unfold zr; omega), if_neg (by omega), hj, z_bd, if_pos (by unfold zr; omega), if_pos (by omega), if_pos (by omega), h7, if_pos (by unfold zr; omega), if_pos c, t1, z_bd]
        rw [fC, fM]
        exact o_append_l (A := (a_n A, a_t A, a_V A, (a_keep (a_h A) (a_s A) (a_V A)).1, (a_keep (a_h A) (a_s A) (a_V A)).2)) a b.2 hn ht hh y.toNat z_fuel z_fuel 0 (a_V A) σ' τ' (by unfold z_fuel; omega) (by unfold z_fuel; omega) (by omega) (by omega) hV (by omega) hC' hM'
      · refine ⟨-3, σ, τ, A, ?_, ?_, hA', hC, hM⟩
        · unfold f_X5_append
          rw [if_pos hx, if_neg (by omega), if_pos hx, if_neg (by omega), if_pos hy, if_neg (by omega), if_pos hy, if_pos (by omega), h1, if_pos (by unfold zr; omega), if_neg c]
        · unfold f_X6_append
          rw [hi, z_bd, if_pos (by unfold zr; omega), if_neg (by omega), hj, z_bd, if_pos (by unfold zr; omega), if_pos (by omega), if_pos (by omega), h7, if_pos (by unfold zr; omega), if_neg c]
    · rw [if_neg b] at hj
      refine ⟨-1, σ, τ, A, ?_, ?_, hA', hC, hM⟩
      · unfold f_X5_append f_X5_append_b22
        rw [if_pos hx, if_neg (by omega), if_pos hx, if_neg (by omega), if_pos hy]
        by_cases c : y < 1
        · rw [if_pos c]
        · rw [if_neg c, if_pos hy, if_neg (by omega)]
      · unfold f_X6_append f_X6_append_b21
        rw [hi, z_bd, if_pos (by unfold zr; omega), if_neg (by omega), hj, z_bd, if_pos (by unfold zr; omega), if_neg (by omega)]
  · rw [if_neg a] at hi
    refine ⟨-1, σ, τ, A, ?_, ?_, hA', hC, hM⟩
    · unfold f_X5_append f_X5_append_b22
      by_cases b : x < 0
      · rw [if_pos hx, if_pos b]
      · rw [if_pos hx, if_neg b, if_pos hx, if_pos (by omega)]
    · unfold f_X6_append f_X6_append_b21
      rw [hi, z_bd, if_pos (by unfold zr; omega), if_pos rfl]
