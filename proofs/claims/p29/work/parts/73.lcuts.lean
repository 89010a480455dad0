/-! THE LAW'S CHECK OF THE CUTS -/
theorem zr_of {x : Int} (h : -2147483648 ≤ x ∧ x ≤ 2147483647) : zr x := ⟨h.1, by omega⟩
theorem L_cuts345 {A : zA} {σ : zS} (hA : a_ok A) (hC : a_C σ A) {k : Int} (k0 : 0 ≤ k) (k1 : k < (q_C (a_V A)).1) (K : zS → Int → Int → Int → Int → Int → Int → Int → Option (Int × zS)) (x1 x4 x5 x6 x8 x9 x10 : Int) : ∃ σ', f_L_cuts_b345 K σ x1 x4 x5 x6 k x8 x9 x10 = K σ' x1 x9 x10 (x4 + (x9 - x8)) (x5 + (q_C (a_V A)).2 2 k) (x6 + (q_C (a_V A)).2 3 k) (k + 1) ∧ a_C σ' A := by
  obtain ⟨σ1, e1, C1⟩ := s_cut (x := k) (c := 2) hA hC ⟨k0, k1⟩ (by omega)
  obtain ⟨σ2, e2, C2⟩ := s_cut (x := k) (c := 3) hA C1 ⟨k0, k1⟩ (by omega)
  refine ⟨σ2, ?_, C2⟩
  unfold f_L_cuts_b345
  rw [e1, z_bd, e2, z_bd]
/-- behind the checks of kind: the next and the last mark, the pause, the quiet beginning -/
theorem L_cuts206 {A : zA} {σ : zS} (hA : a_ok A) (hC : a_C σ A) {k : Int} (k0 : 0 ≤ k) (k1 : k < (q_C (a_V A)).1) (K : zS → Int → Int → Int → Int → Int → Int → Int → Option (Int × zS)) (x1 x4 x5 x6 : Int) : ∃ σ', f_L_cuts_b206 K σ x1 x4 x5 x6 k ((q_C (a_V A)).2 0 k) ((q_C (a_V A)).2 1 k) ((q_C (a_V A)).2 4 k) (v_K (a_V A) 0 ((q_C (a_V A)).2 4 k)) = K σ' x1 ((q_C (a_V A)).2 1 k) ((q_C (a_V A)).2 4 k) (x4 + ((q_C (a_V A)).2 1 k - (q_C (a_V A)).2 0 k)) (x5 + (q_C (a_V A)).2 2 k) (x6 + (q_C (a_V A)).2 3 k) (k + 1) ∧ a_C σ' A := by
  have hV := hA.2.1
  have hF := hV.1
  have hM := hV.2.1
  have hk : q_cok (a_V A) (q_C (a_V A)) (v_M (a_V A)) := q_kok hV _ _
  have hn := hk.1
  obtain ⟨c1, c2, c3, c4⟩ := hk.2.1 k k0 k1
  obtain ⟨g1, g2, g3, g4⟩ := q_gkC hV k k0 k1
  have hS := hV.2.2.2.2.2
  have hS0 : v_S (a_V A) 3 ≤ 50 ∧ 0 ≤ v_S (a_V A) 3 := by have := hS.2.2.2.1; omega
  have hS1 : v_S (a_V A) 1 ≤ 9 ∧ 0 ≤ v_S (a_V A) 1 := by have := hS.2.1; omega
  have e3 := fun {σ : zS} (hC : a_C σ A) => s_setting (x := 3) hC (by omega)
  have eS1 := fun {σ : zS} (hC : a_C σ A) => s_setting (x := 1) hC (by omega)
  have e7 := fun {σ : zS} (hC : a_C σ A) => s_setting7 hC
  have e8 := fun {σ : zS} (hC : a_C σ A) => s_setting8 hC
  have hmk := hV.2.2.2.1 _ c4.1 c4.2
  unfold v_mok at hmk
  simp only [] at g1 g2 g3 g4
  have hx0 : v_K (a_V A) 0 ((q_C (a_V A)).2 4 k) = 0 ∨ v_K (a_V A) 0 ((q_C (a_V A)).2 4 k) = 1 := by
    rcases g2 with g | g
    · exact Or.inl g.1
    · exact Or.inr g.1
  have hp3 : (q_C (a_V A)).2 2 k ≤ v_S (a_V A) 3 := by
    rcases g2 with g | g
    · exact g.2.2.1
    · have := g.2.1; omega
  have hq : v_K (a_V A) 0 ((q_C (a_V A)).2 4 k) = 0 → (q_C (a_V A)).2 3 k = 0 → v_L (a_V A) ((q_C (a_V A)).2 0 k) ≤ v_S (a_V A) 1 := by
    intro h1 h2
    rcases g2 with g | g
    · have := g.2.2.2 h2
      unfold q_lv at this
      rw [if_pos (by omega)] at this
      exact this
    · have := g.1; omega
  have hL := hV.2.2.1 ((q_C (a_V A)).2 0 k) (by omega) (by omega)
  -- the numbers by names
  obtain ⟨b, hb⟩ : ∃ b, b = (q_C (a_V A)).2 0 k := ⟨_, rfl⟩
  obtain ⟨e, he⟩ : ∃ e, e = (q_C (a_V A)).2 1 k := ⟨_, rfl⟩
  obtain ⟨m, hm⟩ : ∃ m, m = (q_C (a_V A)).2 4 k := ⟨_, rfl⟩
  have h257 : ∀ (σ : zS), a_C σ A → ∀ nx bf : Int, (0 ≤ nx ∧ nx ≤ 200) → (0 ≤ bf ∧ bf ≤ 200) → e ≤ nx → bf ≤ b → ∃ σ', f_L_cuts_b257 K σ x1 x4 x5 x6 k b e m (v_K (a_V A) 0 m) nx bf = K σ' x1 e m (x4 + (e - b)) (x5 + (q_C (a_V A)).2 2 k) (x6 + (q_C (a_V A)).2 3 k) (k + 1) ∧ a_C σ' A := by
    intro σ hC nx bf hnx hbf h1 h2
    obtain ⟨σ1, u1, C1⟩ := s_cut (x := k) (c := 2) hA hC ⟨k0, k1⟩ (by omega)
    obtain ⟨σ2, u2, C2⟩ := s_cut (x := k) (c := 2) hA C1 ⟨k0, k1⟩ (by omega)
    unfold f_L_cuts_b257
    rw [if_pos (by unfold zr; omega), if_neg (by omega), if_pos (by unfold zr; omega), if_neg (by omega), u1, z_bd, e3 C1, z_bd, if_pos (by unfold zr; omega), if_neg (by omega), u2, z_bd, if_pos (by unfold zr; omega), if_neg (by omega), if_pos (by rw [hm]; unfold zr; omega)]
    by_cases a : v_K (a_V A) 0 m = 0
    · rw [if_neg (by omega)]
      obtain ⟨σ3, u3, C3⟩ := s_cut (x := k) (c := 3) hA C2 ⟨k0, k1⟩ (by omega)
      rw [u3, z_bd, if_pos (by unfold zr; omega)]
      by_cases r : (q_C (a_V A)).2 3 k = 0
      · have hq := hq (by rw [← hm]; exact a) r
        rw [← hb] at hq hL
        rw [if_neg (by omega), s_level (x := b) hA C3 (by omega), z_bd, eS1 C3, z_bd, if_pos (by unfold zr; omega), if_pos hq]
        exact L_cuts345 hA C3 k0 k1 K x1 x4 x5 x6 b e m
      · rw [if_pos r]
        exact L_cuts345 hA C3 k0 k1 K x1 x4 x5 x6 b e m
    · rw [if_pos a]
      exact L_cuts345 hA C2 k0 k1 K x1 x4 x5 x6 b e m
  have h237 : ∀ (σ : zS), a_C σ A → ∀ nx : Int, (0 ≤ nx ∧ nx ≤ 200) → e ≤ nx → ∃ σ', f_L_cuts_b237 K σ x1 x4 x5 x6 k b e m (v_K (a_V A) 0 m) nx = K σ' x1 e m (x4 + (e - b)) (x5 + (q_C (a_V A)).2 2 k) (x6 + (q_C (a_V A)).2 3 k) (k + 1) ∧ a_C σ' A := by
    intro σ hC nx hnx h1
    unfold f_L_cuts_b237
    rw [if_pos (by unfold zr; omega)]
    by_cases a : m ≤ 0
    · rw [if_pos a]
      exact h257 σ hC nx 0 hnx (by omega) h1 (by omega)
    · have hm1 := (hV.2.2.2.1 (m - 1) (by omega) (by omega)).2.1
      have hg4 := g4 (by omega)
      rw [← hm, ← hb] at hg4
      rw [if_neg a, s_about (m := m - 1) (c := 2) hA hC (by omega) (by omega), z_bd]
      exact h257 σ hC nx _ hnx (by omega) h1 hg4
  unfold q_high at g3
  rw [← hb, ← he, ← hm]
  rw [← he, ← hm] at g3
  unfold f_L_cuts_b206
  rw [e8 hC, z_bd, if_pos (by unfold zr; omega)]
  by_cases a : m + 1 < v_M (a_V A)
  · have hm1 := (hV.2.2.2.1 (m + 1) (by omega) a).2.1
    rw [if_pos a] at g3
    rw [if_neg (by omega), s_about (m := m + 1) (c := 1) hA hC (by omega) (by omega), z_bd]
    exact h237 σ hC _ (by omega) g3
  · rw [if_neg a] at g3
    rw [if_pos (by omega), e7 hC, z_bd]
    exact h237 σ hC _ (by omega) g3
theorem L_cuts87 {A : zA} {σ : zS} (hA : a_ok A) (hC : a_C σ A) {k : Int} (k0 : 0 ≤ k) (k1 : k < (q_C (a_V A)).1) (K : zS → Int → Int → Int → Int → Int → Int → Int → Option (Int × zS)) (x1 x4 x5 x6 : Int) : ∃ σ', f_L_cuts_b87 K σ x1 x4 x5 x6 k ((q_C (a_V A)).2 0 k) ((q_C (a_V A)).2 1 k) ((q_C (a_V A)).2 4 k) (v_K (a_V A) 0 ((q_C (a_V A)).2 4 k)) = K σ' x1 ((q_C (a_V A)).2 1 k) ((q_C (a_V A)).2 4 k) (x4 + ((q_C (a_V A)).2 1 k - (q_C (a_V A)).2 0 k)) (x5 + (q_C (a_V A)).2 2 k) (x6 + (q_C (a_V A)).2 3 k) (k + 1) ∧ a_C σ' A := by
  have hV := hA.2.1
  have hF := hV.1
  have hM := hV.2.1
  have hk : q_cok (a_V A) (q_C (a_V A)) (v_M (a_V A)) := q_kok hV _ _
  have hn := hk.1
  obtain ⟨c1, c2, c3, c4⟩ := hk.2.1 k k0 k1
  obtain ⟨g1, g2, g3, g4⟩ := q_gkC hV k k0 k1
  simp only [] at g1 g2
  have hS := hV.2.2.2.2.2
  have hS0 : v_S (a_V A) 0 ≤ 100 ∧ 0 ≤ v_S (a_V A) 0 := by have := hS.1; omega
  have e7 := fun {σ : zS} (hC : a_C σ A) => s_setting7 hC
  have hmk := hV.2.2.2.1 _ c4.1 c4.2
  unfold v_mok at hmk
  have hat := q_cutOf_at hk k1 (q_C (a_V A)).1.toNat 0 (by omega) k0 (by omega)
  have h206 := fun {σ : zS} (hC : a_C σ A) => L_cuts206 hA hC k0 k1 K x1 x4 x5 x6
  obtain ⟨σ1, u1, C1⟩ := s_about5 (m := (q_C (a_V A)).2 4 k) hA hC c4
  rw [hat] at u1
  unfold f_L_cuts_b87
  rw [if_pos (by unfold zr; omega), if_neg (by omega), e7 hC, z_bd, if_pos (by unfold zr; omega), if_neg (by omega), u1, z_bd, if_pos (by unfold zr; omega), if_neg (by omega)]
  rcases g2 with g | g
  · rw [if_pos (by unfold zr; omega), if_neg (by omega), s_about (c := 4) hA C1 c4 (by omega), z_bd, if_pos (by unfold zr; omega), if_neg (by omega), if_pos (by unfold zr; omega), if_neg (by omega), s_about (c := 3) hA C1 c4 (by omega), z_bd, s_setting (x := 0) C1 (by omega), z_bd, if_pos (by unfold zr; omega), if_neg (by omega)]
    unfold f_L_cuts_b154
    rw [if_pos (by unfold zr; omega), if_pos (by omega)]
    exact h206 C1
  · rw [if_pos (by unfold zr; omega), if_neg (by omega), s_about (c := 4) hA C1 c4 (by omega), z_bd, if_pos (by unfold zr; omega), if_neg (by omega), if_pos (by unfold zr; omega), if_pos (by omega)]
    obtain ⟨σ2, u2, C2⟩ := s_cut (x := k) (c := 2) hA C1 ⟨k0, k1⟩ (by omega)
    obtain ⟨σ3, u3, C3⟩ := s_cut (x := k) (c := 3) hA C2 ⟨k0, k1⟩ (by omega)
    unfold f_L_cuts_b154
    rw [if_pos (by unfold zr; omega), if_neg (by omega), u2, z_bd, if_pos (by unfold zr; omega), if_neg (by omega), u3, z_bd, if_pos (by unfold zr; omega), if_neg (by omega), s_about (c := 1) hA C3 c4 (by omega), z_bd, if_pos (by unfold zr; omega), if_neg (by omega), s_about (c := 2) hA C3 c4 (by omega), z_bd, if_pos (by unfold zr; omega), if_pos (by omega)]
    exact h206 C3
theorem L_cuts_l {A : zA} (hA : a_ok A) : ∀ (n f k : Nat) (x2 x3 : Int) (σ : zS), n < f → (k : Int) + n = (q_C (a_V A)).1 → a_C σ A → (k = 0 ∧ x2 = 0 ∧ x3 = -1 ∨ 0 < k ∧ x2 = (q_C (a_V A)).2 1 ((k : Int) - 1) ∧ x3 = (q_C (a_V A)).2 4 ((k : Int) - 1)) → s_to (f_L_cuts_l21 f σ (q_C (a_V A)).1 x2 x3 (q_sum (q_w (q_C (a_V A)) 0) k) (q_sum (q_w (q_C (a_V A)) 1) k) (q_sum (q_w (q_C (a_V A)) 2) k) k) 1 A := by
  intro n
  have hV := hA.2.1
  have hF := hV.1
  have hM := hV.2.1
  have hk : q_cok (a_V A) (q_C (a_V A)) (v_M (a_V A)) := q_kok hV _ _
  have hn := hk.1
  induction n with
  | zero =>
    intro f k x2 x3 σ hf hkn hC hx
    obtain ⟨f, rfl⟩ : ∃ k, f = k + 1 := ⟨f - 1, by omega⟩
    have ek : k = (q_C (a_V A)).1.toNat := by omega
    have w0 := q_w_ok hV (x := 0) (by omega) k (by omega)
    have w1 := q_w_ok hV (x := 1) (by omega) k (by omega)
    have w2 := q_w_ok hV (x := 2) (by omega) k (by omega)
    obtain ⟨σ1, u1, C1⟩ := s_sum (x := 0) hA hC (by omega)
    obtain ⟨σ2, u2, C2⟩ := s_sum (x := 1) hA C1 (by omega)
    obtain ⟨σ3, u3, C3⟩ := s_sum (x := 2) hA C2 (by omega)
    obtain ⟨σ4, u4, C4⟩ := s_length hA C3
    have hP := q_P_n hV
    rw [← ek] at u1 u2 u3 hP
    have hPb := (q_Pok hV).1
    refine ⟨σ4, ?_, C4⟩
    show f_L_cuts_b21 _ σ _ _ _ _ _ _ _ = _
    unfold f_L_cuts_b21
    rw [if_pos (by unfold zr; omega), if_pos (by omega), u1, z_bd, if_pos (by unfold zr; omega), if_neg (by omega), u2, z_bd, if_pos (by unfold zr; omega), if_neg (by omega), u3, z_bd, if_pos (by unfold zr; omega), if_neg (by omega), u4, z_bd, s_setting7 C4, z_bd, if_pos (by unfold zr; omega), if_neg (by omega)]
    unfold f_L_cuts_b445
    rw [if_pos (by omega)]
  | succ n ih =>
    intro f k x2 x3 σ hf hkn hC hx
    obtain ⟨f, rfl⟩ : ∃ k, f = k + 1 := ⟨f - 1, by omega⟩
    have k1 : (k : Int) < (q_C (a_V A)).1 := by omega
    have k0 : 0 ≤ (k : Int) := by omega
    obtain ⟨c1, c2, c3, c4⟩ := hk.2.1 k k0 k1
    obtain ⟨σ1, u1, C1⟩ := s_cut (x := k) (c := 0) hA hC ⟨k0, k1⟩ (by omega)
    obtain ⟨σ2, u2, C2⟩ := s_cut (x := k) (c := 1) hA C1 ⟨k0, k1⟩ (by omega)
    obtain ⟨σ3, u3, C3⟩ := s_cut (x := k) (c := 4) hA C2 ⟨k0, k1⟩ (by omega)
    have u4 := s_about (c := 0) hA C3 c4 (by omega)
    have hxx : x2 ≤ (q_C (a_V A)).2 0 k ∧ x3 < (q_C (a_V A)).2 4 k ∧ (0 ≤ x2 ∧ x2 ≤ 200) ∧ (-1 ≤ x3 ∧ x3 ≤ 20) := by
      rcases hx with ⟨h1, h2, h3⟩ | ⟨h1, h2, h3⟩
      · omega
      · have h4 := hk.2.2.1 ((k : Int) - 1) (by omega) (by omega)
        rw [show (k : Int) - 1 + 1 = k by omega] at h4
        have h5 := hk.2.1 ((k : Int) - 1) (by omega) (by omega)
        omega
    obtain ⟨σ5, u5, C5⟩ := L_cuts87 hA C3 k0 k1 (f_L_cuts_l21 f) (q_C (a_V A)).1 (q_sum (q_w (q_C (a_V A)) 0) k) (q_sum (q_w (q_C (a_V A)) 1) k) (q_sum (q_w (q_C (a_V A)) 2) k)
    show s_to (f_L_cuts_b21 (f_L_cuts_l21 f) σ _ _ _ _ _ _ _) 1 A
    unfold f_L_cuts_b21
    rw [if_pos (by unfold zr; omega), if_neg (by omega), u1, z_bd, u2, z_bd, u3, z_bd, u4, z_bd, if_pos (by unfold zr; omega), if_neg (by omega), if_pos (by unfold zr; omega), if_neg (by omega), if_pos (by unfold zr; omega), if_pos (by omega), u5, show (k : Int) + 1 = ((k + 1 : Nat) : Int) by omega]
    exact ih f (k + 1) _ _ σ5 (by omega) (by omega) C5 (Or.inr ⟨by omega, by rw [show ((k + 1 : Nat) : Int) - 1 = k by omega], by rw [show ((k + 1 : Nat) : Int) - 1 = k by omega]⟩)
theorem L_cuts {A : zA} {σ : zS} (hA : a_ok A) (hC : a_C σ A) : s_to (f_L_cuts σ) 1 A := by
  have hV := hA.2.1
  have hM := hV.2.1
  have hk : q_cok (a_V A) (q_C (a_V A)) (v_M (a_V A)) := q_kok hV _ _
  have hn := hk.1
  obtain ⟨σ1, u1, C1⟩ := s_cuts hA hC
  unfold f_L_cuts
  rw [u1, z_bd]
  exact L_cuts_l hA (q_C (a_V A)).1.toNat z_fuel 0 0 (-1) σ1 (by unfold z_fuel; omega) (by omega) C1 (Or.inl ⟨rfl, rfl, rfl⟩)
