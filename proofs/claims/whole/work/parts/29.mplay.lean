/-! THE REFERENCE'S RESULT -/
/-- the reference's result holds r; its room sound R -/
def r_N (σ : zS) (r : zP) : Prop := σ 0 15 = r.1 ∧ ∀ i, 0 ≤ i → i < r.1 → σ 7 i = r.2.1 i ∧ σ 8 i = r.2.2 i
def r_H (σ : zS) (R : zM) : Prop := σ 0 17 = R.1 ∧ ∀ i, 0 ≤ i → i < R.1 → σ 9 i = R.2 i
abbrev p_A (a : Nat) (b : Int) : Prop := a = 7 ∨ a = 8 ∨ (a = 0 ∧ b = 15)
abbrev p_B (a : Nat) (b : Int) : Prop := a = 7 ∨ a = 8 ∨ (a = 0 ∧ (b = 15 ∨ b = 18))
abbrev p_C (a : Nat) (b : Int) : Prop := a = 9 ∨ (a = 0 ∧ b = 17)
abbrev p_D (a : Nat) (b : Int) : Prop := a = 6 ∨ a = 7 ∨ a = 8 ∨ a = 9 ∨ (a = 0 ∧ (b = 12 ∨ b = 15 ∨ b = 17 ∨ b = 18))
theorem z_ex_row {P : Nat → Int → Prop} {σ τ : zS} (h : z_ex P σ τ) {a : Nat} (ha : ∀ b, ¬ P a b) : τ a = σ a := funext fun b => h a b (ha b)
theorem r_H_ex {P : Nat → Int → Prop} {σ τ : zS} {R : zM} (h : r_H σ R) (hx : z_ex P σ τ) (h1 : ¬ P 0 17) (h2 : ∀ b, ¬ P 9 b) : r_H τ R := by
  unfold r_H at h ⊢
  rw [hx 0 17 h1, z_ex_row hx h2]
  exact h
theorem r_M_ex {P : Nat → Int → Prop} {σ τ : zS} {s : zL} (h : r_M σ s) (hx : z_ex P σ τ) (h1 : ¬ P 0 12) (h2 : ∀ b, ¬ P 6 b) : r_M τ s := by
  unfold r_M at h ⊢
  rw [hx 0 12 h1, z_ex_row hx h2]
  exact h
theorem v_Q_ex {P : Nat → Int → Prop} {σ τ : zS} {V : zV} {d w : Int} (h : v_Q (σ 1) V d w) (hx : z_ex P σ τ) (h2 : ∀ b, ¬ P 1 b) : v_Q (τ 1) V d w := by
  rw [z_ex_row hx h2]
  exact h
theorem m_hears {σ : zS} {r : zP} {s l : Int} (hr : r_N σ r) (hn : 0 ≤ r.1 ∧ r.1 < 1400) : ∃ τ, f_X6_hears σ s l = some ((), τ) ∧ r_N τ (q_add r s l) ∧ z_ex p_A σ τ := by
  have h2 := hr.1
  refine ⟨z_up (z_up (z_up σ 7 r.1 s) 8 r.1 l) 0 15 (r.1 + 1), ?_, ⟨by rw [z_re]; rfl, fun i i0 i1 => ?_⟩, z_ex_up (z_ex_up (z_ex_up z_ex_rf (Or.inl rfl)) (Or.inr (Or.inl rfl))) (Or.inr (Or.inr ⟨rfl, rfl⟩))⟩
  · unfold f_X6_hears
    rw [h2, if_pos (by omega), z_put, z_rn (by omega), h2, if_pos (by omega), z_put, z_rn (by omega), z_rn (by omega), h2, z_put]
  · have i1 : i < r.1 + 1 := i1
    show _ = (if i = r.1 then s else r.2.1 i) ∧ _ = (if i = r.1 then l else r.2.2 i)
    by_cases e : i = r.1
    · rw [if_pos e, if_pos e, e, z_rn (by omega), z_rn (by omega), z_re, z_rn (by omega), z_re]; exact ⟨rfl, rfl⟩
    · rw [if_neg e, if_neg e, z_rn (by omega), z_rn (by omega), z_ri e, z_rn (by omega), z_ri e, z_rn (by omega)]
      exact hr.2 i i0 (by omega)
theorem m_isNoise_l {V : zV} {d w x : Int} (hV : v_ok V) (hx : 0 ≤ x ∧ x < 200) {σ : zS} (hR : v_Q (σ 1) V d w) : ∀ (n m f : Nat), n < f → (m : Int) + n = v_M V → f_X6_isNoise_l4 f σ x (q_nz V x m) m = some (q_nz V x (v_M V).toNat, σ) := by
  intro n
  have hM := hV.2.1
  have hF := hV.1
  have h8 := hR.2.1
  induction n with
  | zero =>
    intro m f hf hm
    obtain ⟨f, rfl⟩ : ∃ k, f = k + 1 := ⟨f - 1, by omega⟩
    have hz := q_nz_ok V x m
    unfold f_X6_isNoise_l4 f_X6_isNoise_b4
    rw [h8, if_pos (by omega), if_pos (by unfold zr; omega), if_pos (by omega), if_pos hz, show (v_M V).toNat = m by omega]
  | succ n ih =>
    intro m f hf hm
    obtain ⟨f, rfl⟩ : ∃ k, f = k + 1 := ⟨f - 1, by omega⟩
    have hz := q_nz_ok V x m
    obtain ⟨e0, e1, e2, e3, e4⟩ := m_of hR hV (m := m) (by omega) (by omega)
    have hmk := hV.2.2.2.1 m (by omega) (by omega)
    unfold v_mok at hmk
    have ih := ih (m + 1) f (by omega) (by omega)
    rw [show ((m + 1 : Nat) : Int) = (m : Int) + 1 by omega] at ih
    have hq : q_nz V x (m + 1) = if v_K V 0 m = 3 ∧ v_K V 1 m ≤ x ∧ x < v_K V 2 m then 1 else q_nz V x m := rfl
    unfold f_X6_isNoise_l4 f_X6_isNoise_b4 f_X6_isNoise_b54 f_X6_isNoise_b50 f_X6_isNoise_b55
    rw [h8, if_pos (by omega), if_pos (by unfold zr; omega), if_neg (by omega), if_pos (by unfold zr; omega)]
    by_cases a : q_nz V x m = 0
    · rw [if_neg (by omega), e0, z_bd, if_pos (by unfold zr; omega)]
      by_cases b : v_K V 0 m = 3
      · rw [if_neg (by omega), e1, z_bd, e2, z_bd, m_in (by unfold zr; omega) (by unfold zr; omega) (by unfold zr; omega), z_bd]
        by_cases c : v_K V 1 m ≤ x ∧ x ≤ v_K V 2 m - 1
        · rw [if_pos (show v_K V 0 m = 3 ∧ v_K V 1 m ≤ x ∧ x < v_K V 2 m by omega)] at hq
          rw [hq] at ih
          rw [if_pos c, if_pos (by unfold zr; omega), if_neg (by omega)]
          exact ih
        · rw [if_neg (show ¬ (v_K V 0 m = 3 ∧ v_K V 1 m ≤ x ∧ x < v_K V 2 m) by omega), a] at hq
          rw [hq] at ih
          rw [if_neg c, if_pos (by unfold zr; omega), if_pos rfl]
          exact ih
      · rw [if_neg (show ¬ (v_K V 0 m = 3 ∧ v_K V 1 m ≤ x ∧ x < v_K V 2 m) by omega), a] at hq
        rw [hq] at ih
        rw [if_pos b]
        exact ih
    · have a1 : q_nz V x m = 1 := by omega
      have hq1 : q_nz V x (m + 1) = 1 := by
        rw [hq, a1]; split <;> rfl
      rw [hq1] at ih
      rw [if_pos a]
      exact ih
theorem m_isNoise {V : zV} {d w x : Int} (hV : v_ok V) (hx : 0 ≤ x ∧ x < 200) {σ : zS} (hR : v_Q (σ 1) V d w) : f_X6_isNoise σ x = some (q_nz V x (v_M V).toNat, σ) := by
  have hM := hV.2.1
  exact m_isNoise_l hV hx hR (v_M V).toNat 0 z_fuel (by unfold z_fuel; omega) (by omega)
theorem m_pauses_l {V : zV} (hV : v_ok V) {d w t b : Int} {r0 : zP} {c : Int} (hb : b ≤ 200) (hc : c ≤ 100) (ht : 0 ≤ t ∧ t ≤ 2000) : ∀ (n i f : Nat) (σ : zS), n < f → (i : Int) + n = c → v_Q (σ 1) V d w → r_H σ (q_R V) → r_N σ (q_ps V t r0 i) → q_pok2 V (q_ps V t r0 i) b n → σ 0 18 = t + i → ∃ τ, f_X6_pauses_l2 f σ c i = some ((), τ) ∧ r_N τ (q_ps V t r0 (i + n)) ∧ z_ex p_B σ τ ∧ τ 0 18 = t + c := by
  intro n
  have hF := hV.1
  have hR := (q_R_ok hV).1
  induction n with
  | zero =>
    intro i f σ hf hi hC hG hr hk hT
    obtain ⟨f, rfl⟩ : ∃ k, f = k + 1 := ⟨f - 1, by omega⟩
    refine ⟨σ, ?_, hr, z_ex_rf, by rw [show c = (i : Int) by omega]; exact hT⟩
    unfold f_X6_pauses_l2 f_X6_pauses_b2
    rw [if_pos (by unfold zr; omega), if_pos (by omega)]
  | succ n ih =>
    intro i f σ hf hi hC hG hr hk hT
    obtain ⟨f, rfl⟩ : ∃ k, f = k + 1 := ⟨f - 1, by omega⟩
    have hk1 := hk.1.1
    have hk2 := hk.2
    have g17 := hG.1
    have hq : q_ps V t r0 (i + 1) = q_add (q_ps V t r0 i) (if (q_R V).1 = 0 then 2000 else 1000 + (q_R V).2 ((t + i) % (q_R V).1)) (if (q_R V).1 = 0 then 0 else v_L V ((q_R V).2 ((t + i) % (q_R V).1))) := rfl
    have hB : ∀ s1 s2 : Int, q_ps V t r0 (i + 1) = q_add (q_ps V t r0 i) s1 s2 → ∃ τ, f_X6_pauses_b72 (f_X6_pauses_l2 f) σ c i s1 s2 = some ((), τ) ∧ r_N τ (q_ps V t r0 (i + (n + 1))) ∧ z_ex p_B σ τ ∧ τ 0 18 = t + c := by
      intro s1 s2 hs
      obtain ⟨υ, u1, u2, u3⟩ := m_hears hr (s := s1) (l := s2) (by omega)
      have x1 : z_ex p_B σ (z_up υ 0 18 (υ 0 18 + 1)) := z_ex_up (z_ex_le u3 (fun a b h => by omega)) (by omega)
      have h18 : υ 0 18 = t + i := by rw [u3 0 18 (by omega)]; exact hT
      obtain ⟨τ, t1, t2, t3, t4⟩ := ih (i + 1) f (z_up υ 0 18 (υ 0 18 + 1)) (by omega) (by omega) (v_Q_ex hC x1 (by omega)) (r_H_ex hG x1 (by omega) (by omega)) (by
        rw [hs]
        refine ⟨by rw [z_ri (by omega)]; exact u2.1, fun k k0 k1 => ?_⟩
        rw [z_rn (by omega), z_rn (by omega)]
        exact u2.2 k k0 k1) (q_ps_ok_step hV hk) (by rw [z_re, h18]; omega)
      refine ⟨τ, ?_, by rw [show i + (n + 1) = i + 1 + n by omega]; exact t2, z_ex_tr x1 t3, t4⟩
      unfold f_X6_pauses_b72
      rw [u1, z_bd, z_put, show ((i : Int) + 1) = ((i + 1 : Nat) : Int) by omega]
      exact t1
    unfold f_X6_pauses_l2 f_X6_pauses_b2 f_X6_pauses_b32 f_X6_pauses_b52
    rw [if_pos (by unfold zr; omega), if_neg (by omega), g17, hT, if_pos (by unfold zr; omega)]
    by_cases a : (q_R V).1 = 0
    · rw [if_pos a, if_pos a] at hq
      rw [if_neg (by omega), if_pos (by unfold zr; omega), if_neg (by omega), if_pos (by unfold zr; omega), if_neg (by omega)]
      exact hB _ _ hq
    · rw [if_neg a, if_neg a] at hq
      obtain ⟨⟨f1, f2⟩, f3, f4⟩ := q_rf hV (t := t + i) a
      have hmod : (t + i).tmod (q_R V).1 = (t + i) % (q_R V).1 := Int.tmod_eq_emod_of_nonneg (by omega)
      have hL := hC.2.2.1 _ f3 f4
      rw [if_pos (by omega), if_pos ⟨by unfold zr; omega, by unfold zr; omega, a⟩, hmod, if_pos (by omega), hG.2 _ f1 f2, if_pos (by unfold zr; omega), if_pos (by omega), if_pos (by unfold zr; omega), if_pos (by omega), if_pos (by omega), hL]
      exact hB _ _ hq
theorem m_room_l39 {V : zV} (hV : v_ok V) {d w : Int} (m : Nat) (m1 : (m : Int) < v_M V) (K : zS → Int → Option (Unit × zS)) : ∀ (n f : Nat) (x : Int) (σ : zS), n < f → v_K V 1 m ≤ x → x + n = v_K V 2 m → v_Q (σ 1) V d w → r_H σ (if v_K V 0 m = 2 then q_rm1 (q_rm V m) (v_K V 1 m) (x - v_K V 1 m).toNat else q_rm V m) → ∃ τ, f_X6_plays_l39 K f σ m x = K τ (m + 1) ∧ r_H τ (q_rm V (m + 1)) ∧ z_ex p_C σ τ := by
  intro n
  have hM := hV.2.1
  have hF := hV.1
  have hmk := hV.2.2.2.1 m (by omega) m1
  unfold v_mok at hmk
  induction n with
  | zero =>
    intro f x σ hf x0 hx hC hG
    obtain ⟨f, rfl⟩ : ∃ k, f = k + 1 := ⟨f - 1, by omega⟩
    obtain ⟨e0, e1, e2, e3, e4⟩ := m_of hC hV (m := m) (by omega) m1
    refine ⟨σ, ?_, ?_, z_ex_rf⟩
    · unfold f_X6_plays_l39 f_X6_plays_b39 f_X6_plays_b85
      rw [e2, z_bd, if_pos (by unfold zr; omega), if_pos (by omega)]
    · have hx : x = v_K V 2 m := by omega
      rw [hx] at hG
      exact hG
  | succ n ih =>
    intro f x σ hf x0 hx hC hG
    obtain ⟨f, rfl⟩ : ∃ k, f = k + 1 := ⟨f - 1, by omega⟩
    obtain ⟨e0, e1, e2, e3, e4⟩ := m_of hC hV (m := m) (by omega) m1
    by_cases a : v_K V 0 m = 2
    · rw [if_pos a] at hG
      have hR : 0 ≤ (q_rm1 (q_rm V m) (v_K V 1 m) (x - v_K V 1 m).toNat).1 ∧ (q_rm1 (q_rm V m) (v_K V 1 m) (x - v_K V 1 m).toNat).1 < 200 := by
        have h1 := (q_rm_ok hV m (by omega)).1
        rw [if_pos m1] at h1
        rw [q_rm1_n]; omega
      obtain ⟨R, hRe⟩ : ∃ R, R = q_rm1 (q_rm V m) (v_K V 1 m) (x - v_K V 1 m).toNat := ⟨_, rfl⟩
      rw [← hRe] at hG hR
      have h17 := hG.1
      have x1 : z_ex p_C σ (z_up (z_up σ 9 R.1 x) 0 17 (R.1 + 1)) := z_ex_up (z_ex_up z_ex_rf (by omega)) (by omega)
      obtain ⟨τ, t1, t2, t3⟩ := ih f (x + 1) (z_up (z_up σ 9 R.1 x) 0 17 (R.1 + 1)) (by omega) (by omega) (by omega) (v_Q_ex hC x1 (by omega)) (by
        rw [if_pos a, show (x + 1 - v_K V 1 m).toNat = (x - v_K V 1 m).toNat + 1 by omega]
        show r_H _ (q_rpush _ _)
        rw [← hRe, show v_K V 1 m + ((x - v_K V 1 m).toNat : Int) = x by omega]
        refine ⟨by rw [z_re]; rfl, fun i i0 i1 => ?_⟩
        have i1 : i < R.1 + 1 := i1
        show _ = if i = R.1 then x else R.2 i
        rw [z_rn (by omega)]
        by_cases e : i = R.1
        · rw [if_pos e, e, z_re]
        · rw [if_neg e, z_ri e]; exact hG.2 i i0 (by omega))
      refine ⟨τ, ?_, t2, z_ex_tr x1 t3⟩
      unfold f_X6_plays_l39 f_X6_plays_b39
      rw [e2, z_bd, if_pos (by unfold zr; omega), if_neg (by omega), e0, z_bd, if_pos (by unfold zr; omega), if_neg (by omega), h17, if_pos (by omega), z_put, z_rn (by omega), h17, z_put]
      exact t1
    · refine ⟨σ, ?_, ?_, z_ex_rf⟩
      · unfold f_X6_plays_l39 f_X6_plays_b39 f_X6_plays_b85
        rw [e2, z_bd, if_pos (by unfold zr; omega), if_neg (by omega), e0, z_bd, if_pos (by unfold zr; omega), if_pos a]
      · rw [if_neg a] at hG
        show r_H σ (if v_K V 0 m = 2 then _ else _)
        rw [if_neg a]
        exact hG
theorem m_room_l21 {V : zV} (hV : v_ok V) {d w : Int} : ∀ (n m f : Nat) (σ : zS), n < f → (m : Int) + n = v_M V → v_Q (σ 1) V d w → r_H σ (q_rm V m) → ∃ τ, f_X6_plays_l21 f σ m = f_X6_plays_l95 z_fuel τ 0 0 ∧ r_H τ (q_R V) ∧ z_ex p_C σ τ := by
  intro n
  have hM := hV.2.1
  have hF := hV.1
  induction n with
  | zero =>
    intro m f σ hf hm hC hG
    obtain ⟨f, rfl⟩ : ∃ k, f = k + 1 := ⟨f - 1, by omega⟩
    have h8 := hC.2.1
    refine ⟨σ, ?_, ?_, z_ex_rf⟩
    · unfold f_X6_plays_l21 f_X6_plays_b21
      rw [h8, if_pos (by omega), if_pos (by unfold zr; omega), if_pos (by omega)]
    · have e : m = (v_M V).toNat := by omega
      rw [e] at hG
      exact hG
  | succ n ih =>
    intro m f σ hf hm hC hG
    obtain ⟨f, rfl⟩ : ∃ k, f = k + 1 := ⟨f - 1, by omega⟩
    have h8 := hC.2.1
    have m1 : (m : Int) < v_M V := by omega
    obtain ⟨e0, e1, e2, e3, e4⟩ := m_of hC hV (m := m) (by omega) m1
    have hmk := (hV.2.2.2.1 m (by omega) m1).2.1
    obtain ⟨τ, t1, t2, t3⟩ := m_room_l39 hV (d := d) (w := w) m m1 (f_X6_plays_l21 f) (v_K V 2 m - v_K V 1 m).toNat z_fuel (v_K V 1 m) σ (by unfold z_fuel; omega) (by omega) (by omega) hC (by
      have e1 : (v_K V 1 m - v_K V 1 m).toNat = 0 := by omega
      have ea : (if v_K V 0 m = 2 then q_rm1 (q_rm V m) (v_K V 1 m) (v_K V 1 m - v_K V 1 m).toNat else q_rm V m) = q_rm V m := by
        rw [e1]; split <;> rfl
      rw [ea]; exact hG)
    obtain ⟨υ, u1, u2, u3⟩ := ih (m + 1) f τ (by omega) (by omega) (v_Q_ex hC t3 (by omega)) t2
    refine ⟨υ, ?_, u2, z_ex_tr t3 u3⟩
    unfold f_X6_plays_l21 f_X6_plays_b21
    rw [h8, if_pos (by omega), if_pos (by unfold zr; omega), if_neg (by omega), e1, z_bd, t1]
    rw [show ((m : Int) + 1) = ((m + 1 : Nat) : Int) by omega]
    exact u1
