/-! THE LAW'S BODY -/
/-- whatever comes next does come to its end -/
def s_end (o : Option (Unit × zS)) : Prop := ∃ τ, o = some ((), τ)
theorem L_747 {E : yE} {K : zS → Int → Option (Unit × zS)} {A : zA} {σ : zS} (hA : a_ok A) (hC : a_C σ A) {x4 m on : Int} (hm : 0 ≤ m ∧ m < v_M (a_V A)) (ho : 0 ≤ on ∧ on ≤ 1) (kk : ∀ (A' : zA) (σ' : zS), a_ok A' → a_C σ' A' → s_end (K σ' (x4 + 1))) : s_end (f_L_law_b747 E K σ x4 (v_K (a_V A) 4 m) m on) := by
  have hV := hA.2.1
  have hk := hV.2.2.2.1 m hm.1 hm.2
  unfold v_mok at hk
  obtain ⟨σ1, u1, C1⟩ := s_hold (m := m) (y := on) hA hC hm ho
  unfold f_L_law_b747 f_L_law_b757
  rw [u1, z_bd, if_pos (by unfold zr; omega), if_pos rfl]
  exact kk _ σ1 (a_act_ok hA (v_hold_ok hV ho)) C1
theorem L_675 {E : yE} {K : zS → Int → Option (Unit × zS)} {A : zA} {σ : zS} (hA : a_ok A) (hC : a_C σ A) {x4 x6 m on : Int} (hm : 0 ≤ m ∧ m < v_M (a_V A)) (ho : 0 ≤ on ∧ on ≤ 1) (kk : ∀ (A' : zA) (σ' : zS), a_ok A' → a_C σ' A' → s_end (K σ' (x4 + 1))) : s_end (f_L_law_b675 E K σ x4 (v_M (a_V A)) x6 m (v_K (a_V A) 4 m) (q_pr (a_V A)) m on) := by
  have hV := hA.2.1
  have hM := hV.2.1
  have hk := hV.2.2.2.1 m hm.1 hm.2
  unfold v_mok at hk
  obtain ⟨σ1, u1, C1⟩ := s_hold (m := m) (y := on) hA hC hm ho
  have hA1 : a_ok (a_act A (v_hold (a_V A) m on)) := a_act_ok hA (v_hold_ok hV ho)
  obtain ⟨σ2, u2, C2⟩ := L_cuts hA1 C1
  obtain ⟨t1, t2⟩ := a_un_act hA (v_hold (a_V A) m on)
  have hA3 := a_un_ok hA1 t1
  obtain ⟨σ3, u3, C3⟩ := s_undo hA1 C2 t1
  have t3 := hA1.2.2.1
  obtain ⟨B, hB⟩ : ∃ B, B = a_un (a_act A (v_hold (a_V A) m on)) := ⟨_, rfl⟩
  rw [← hB] at hA3 C3 t2
  obtain ⟨σ4, u4, C4⟩ := s_print hA3 C3
  rw [t2] at u4
  have z5 := z_and_zr x6 512
  unfold f_L_law_b675
  rw [u1, z_bd, if_pos (by unfold zr; omega), if_neg (by omega), u2, z_bd, if_pos (by decide), if_neg (by omega), u3, z_bd, if_pos (by unfold zr; omega), if_neg (by omega), u4, z_bd, if_pos rfl, if_pos (by decide), if_pos rfl, if_pos z5]
  by_cases a : z_and x6 512 = 0
  · rw [if_pos a, if_pos (by unfold zr; omega)]
    by_cases b : v_K (a_V A) 4 m = 0
    · rw [if_neg (by omega)]
      have h := L_747 (E := E) (K := K) (x4 := x4) (m := m) (on := 1) hA3 C4 (by rw [t2]; exact hm) (by omega) kk
      rw [t2] at h
      exact h
    · rw [if_pos b]
      have h := L_747 (E := E) (K := K) (x4 := x4) (m := m) (on := 0) hA3 C4 (by rw [t2]; exact hm) (by omega) kk
      rw [t2] at h
      exact h
  · rw [if_neg a]
    obtain ⟨σ5, u5, C5⟩ := s_unmark (m := m) hA3 C4 (by rw [t2]; exact hm)
    rw [t2] at u5
    unfold f_L_law_b757
    rw [u5, z_bd, if_pos (by unfold zr; omega), if_pos rfl]
    exact kk _ σ5 (a_act_ok hA3 (v_del_ok hA3.2.1 hm.1 (by rw [t2]; exact hm.2))) C5
theorem L_567 {E : yE} (hE : e_L E ≤ 260) : ∀ (n f : Nat) (x4 : Int) (A : zA) (σ : zS), n < f → 0 ≤ x4 → x4 + n = 4 → a_ok A → a_C σ A → s_end (f_L_law_l567 E f σ x4) := by
  intro n
  induction n with
  | zero =>
    intro f x4 A σ hf h0 hx hA hC
    obtain ⟨f, rfl⟩ : ∃ k, f = k + 1 := ⟨f - 1, by omega⟩
    obtain ⟨A1, hA1, e1, σ1, u1, C1⟩ := L_fails hA hC
    show s_end (f_L_law_b567 E _ σ x4)
    unfold f_L_law_b567
    rw [if_pos (by unfold zr; omega), if_pos (by omega), u1, z_bd, if_pos rfl]
    exact ⟨_, rfl⟩
  | succ n ih =>
    intro f x4 A σ hf h0 hx hA hC
    obtain ⟨f, rfl⟩ : ∃ k, f = k + 1 := ⟨f - 1, by omega⟩
    have kk : ∀ (A' : zA) (σ' : zS), a_ok A' → a_C σ' A' → s_end (f_L_law_l567 E f σ' (x4 + 1)) := fun A' σ' h1 h2 => ih f (x4 + 1) A' σ' (by omega) (by omega) (by omega) h1 h2
    obtain ⟨σ1, u1, C1⟩ := L_cuts hA hC
    obtain ⟨σ2, u2, C2⟩ := L_result hA C1
    obtain ⟨v, u3⟩ := L_cell (E := E) (σ := σ2) hE (k := 20 + x4) (by omega)
    obtain ⟨w, u4, hw⟩ := L_up (σ := σ2) v (m := 60) (by omega)
    obtain ⟨A5, hA5, e5, σ5, u5, C5⟩ := L_asks hA C2 (x1 := w) (by omega)
    have hV5 := hA5.2.1
    have hM5 := hV5.2.1
    have u6 := s_setting8 C5
    obtain ⟨q, u7⟩ := L_cell (E := E) (σ := σ5) hE (k := 24 + x4) (by omega)
    show s_end (f_L_law_b567 E (f_L_law_l567 E f) σ x4)
    unfold f_L_law_b567
    rw [if_pos (by unfold zr; omega), if_neg (by omega), u1, z_bd, if_pos (by decide), if_neg (by omega), u2, z_bd, if_pos (by decide), if_neg (by omega), u3, z_bd, u4, z_bd, u5, z_bd, if_pos (by decide), if_pos (by omega), u6, z_bd, u7, z_bd, if_pos (by unfold zr; omega)]
    by_cases a : v_M (a_V A5) ≤ 0
    · rw [if_pos a]
      unfold f_L_law_b757
      exact kk A5 σ5 hA5 C5
    · rw [if_neg a]
      obtain ⟨m, u8, hm⟩ := L_up (σ := σ5) q (m := v_M (a_V A5)) (by omega)
      have u9 := s_about (m := m) (c := 4) hA5 C5 hm (by omega)
      obtain ⟨σ6, u10, C6⟩ := s_print hA5 C5
      have z7 := z_and_zr q 256
      rw [u8, z_bd, u9, z_bd, u10, z_bd, if_pos z7]
      by_cases b : z_and q 256 = 0
      · rw [if_pos b]
        exact L_675 hA5 C6 hm (by omega) kk
      · rw [if_neg b]
        exact L_675 hA5 C6 hm (by omega) kk
/-- behind a mark that was told: its number, its place -/
theorem L_391 {E : yE} {K : zS → Int → Int → Option (Unit × zS)} {A : zA} (hA : a_ok A) {x3 x4 x5 x6 x7 x9 : Int} (h3 : x3 = v_F (a_V A)) (hM15 : v_M (a_V A) ≤ 15) (h6 : 0 ≤ x6 ∧ x6 < x3) (h7 : x6 < x7 ∧ x7 ≤ x6 + 10) (h9 : (x9 = 1 ∧ x7 ≤ x3) ∨ (x9 = 0 ∧ x3 < x7)) (kk : ∀ (A' : zA) (σ' : zS), a_ok A' → a_C σ' A' → v_F (a_V A') = v_F (a_V A) → v_M (a_V A') ≤ v_M (a_V A) + 1 → s_end (K σ' x3 (x4 + 1))) : ∀ (n f m : Nat) (σ : zS), n < f → (m : Int) + n = v_M (a_V A) → a_C σ A → s_end (f_L_law_l391 E K f σ x3 x4 x5 x6 x7 (v_M (a_V A)) x9 (1 - q_ov (a_V A) x6 x7 m) (q_at (a_V A) x6 m) m) := by
  intro n
  have hV := hA.2.1
  have hF := hV.1
  have hM := hV.2.1
  have hat : ∀ j : Nat, 0 ≤ q_at (a_V A) x6 j ∧ q_at (a_V A) x6 j ≤ j := by
    intro j
    induction j with
    | zero => exact ⟨Int.le_refl _, Int.le_refl _⟩
    | succ j ih =>
      have e : q_at (a_V A) x6 (j + 1) = q_at (a_V A) x6 j + (if v_K (a_V A) 1 j < x6 then 1 else 0) := rfl
      rw [e]
      split <;> omega
  induction n with
  | zero =>
    intro f m σ hf hm hC
    obtain ⟨f, rfl⟩ : ∃ k, f = k + 1 := ⟨f - 1, by omega⟩
    have hov := q_ov_ok (a_V A) x6 x7 m
    have ham := hat m
    have em : (v_M (a_V A)).toNat = m := by omega
    obtain ⟨k, u1, hk⟩ := L_up (σ := σ) x5 (m := 4) (by omega)
    obtain ⟨d, u2, hd⟩ := L_up (σ := σ) (z_shr x5 14) (m := 101) (by omega)
    show s_end (f_L_law_b391 E K _ σ x3 x4 x5 x6 x7 (v_M (a_V A)) x9 (1 - q_ov (a_V A) x6 x7 m) (q_at (a_V A) x6 m) m)
    unfold f_L_law_b391
    rw [if_pos (by unfold zr; omega), if_pos (by omega), u1, z_bd, u2, z_bd]
    by_cases a : x7 ≤ x3
    · have hall : (0 ≤ k ∧ k ≤ 3) ∧ (0 ≤ d ∧ d ≤ 100) ∧ 0 ≤ x6 ∧ x6 < x7 ∧ x7 ≤ v_F (a_V A) := by omega
      by_cases b : q_ov (a_V A) x6 x7 m = 0
      · obtain ⟨p1, p2, σ3, u3, C3⟩ := s_mark (k := k) (f := x6) (t := x7) (d := d) hA hC hall (by rw [em]; exact b) (by omega)
        rw [em] at p1 p2 u3 C3
        have hp := p1.1
        have hA3 : a_ok (a_act A (v_ins (a_V A) (q_at (a_V A) x6 m) k x6 x7 d)) := a_act_ok hA p2
        obtain ⟨e0, e1, e2, e3, e4⟩ := v_ins_eq (V := a_V A) (p := q_at (a_V A) x6 m) (k := k) (f := x6) (t := x7) (d := d)
        have hp3 : 0 ≤ q_at (a_V A) x6 m ∧ q_at (a_V A) x6 m < v_M (a_V (a_act A (v_ins (a_V A) (q_at (a_V A) x6 m) k x6 x7 d))) := by
          show _ ∧ q_at (a_V A) x6 m < v_M (a_V A) + 1
          omega
        have u4 := s_about (c := 1) hA3 C3 hp3 (by omega)
        have u5 := s_about (c := 2) hA3 C3 hp3 (by omega)
        have u4 : f_X5_about σ3 (q_at (a_V A) x6 m) 1 = some (v_K (v_ins (a_V A) (q_at (a_V A) x6 m) k x6 x7 d) 1 (q_at (a_V A) x6 m), σ3) := u4
        have u5 : f_X5_about σ3 (q_at (a_V A) x6 m) 2 = some (v_K (v_ins (a_V A) (q_at (a_V A) x6 m) k x6 x7 d) 2 (q_at (a_V A) x6 m), σ3) := u5
        rw [e1] at u4
        rw [e2] at u5
        have u6 := s_setting8 C3
        have u6 : f_X5_setting σ3 8 = some (v_M (a_V A) + 1, σ3) := u6
        rw [u3, z_bd, if_pos (by unfold zr; omega), if_pos (by omega), if_pos (by unfold zr; omega), if_pos (by omega)]
        unfold f_L_law_b511 f_L_law_b558
        rw [if_pos (by unfold zr; omega), if_neg (by omega), if_pos (by unfold zr; omega), if_neg (by omega), u4, z_bd, if_pos (by unfold zr; omega), if_neg (by omega), u5, z_bd, if_pos (by unfold zr; omega), if_neg (by omega), u6, z_bd, if_pos (by unfold zr; omega), if_pos rfl]
        exact kk _ σ3 hA3 C3 rfl (Int.le_refl _)
      · have u3 := s_markState (k := k) (f := x6) (t := x7) (d := d) hA hC hall (by rw [em]; exact b)
        rw [u3, z_bd, if_pos (by unfold zr; omega), if_pos (by omega), if_pos (by unfold zr; omega), if_neg (by omega)]
        unfold f_L_law_b511 f_L_law_b558
        rw [if_pos (by decide), if_neg (by omega), if_pos (by decide), if_pos (by omega)]
        exact kk _ σ hA hC rfl (by omega)
    · have u3 := s_markBad (k := k) (f := x6) (t := x7) (d := d) hA hC (by unfold zr; omega) (by unfold zr; omega) (by unfold zr; omega) (by unfold zr; omega) (by omega)
      rw [u3, z_bd, if_pos (by unfold zr; omega), if_neg (by omega)]
      unfold f_L_law_b511 f_L_law_b558
      rw [if_pos (by decide), if_neg (by omega), if_pos (by decide), if_pos (by omega)]
      exact kk _ σ hA hC rfl (by omega)
  | succ n ih =>
    intro f m σ hf hm hC
    obtain ⟨f, rfl⟩ : ∃ k, f = k + 1 := ⟨f - 1, by omega⟩
    have hov := q_ov_ok (a_V A) x6 x7 m
    have ham := hat m
    have hmk := (hV.2.2.2.1 m (by omega) (by omega)).2.1
    have i1 := ih f (m + 1) σ (by omega) (by omega) hC
    have eo : q_ov (a_V A) x6 x7 (m + 1) = if x6 < v_K (a_V A) 2 m ∧ v_K (a_V A) 1 m < x7 then 1 else q_ov (a_V A) x6 x7 m := rfl
    have ea : q_at (a_V A) x6 (m + 1) = q_at (a_V A) x6 m + (if v_K (a_V A) 1 m < x6 then 1 else 0) := rfl
    have u1 := s_about (m := m) (c := 1) hA hC (by omega) (by omega)
    have u2 := s_about (m := m) (c := 2) hA hC (by omega) (by omega)
    have h432 : ∀ s0 : Int, s0 = 1 - q_ov (a_V A) x6 x7 (m + 1) → s_end (f_L_law_b432 E K (f_L_law_l391 E K f) σ x3 x4 x5 x6 x7 (v_M (a_V A)) x9 (q_at (a_V A) x6 m) m s0) := by
      intro s0 hs
      rw [ea] at i1
      unfold f_L_law_b432 f_L_law_b453
      rw [u1, z_bd, if_pos (by unfold zr; omega), hs]
      by_cases c : v_K (a_V A) 1 m < x6
      · rw [if_pos c] at i1
        rw [if_neg (by omega)]
        exact i1
      · rw [if_neg c] at i1
        rw [if_pos (by omega)]
        exact i1
    show s_end (f_L_law_b391 E K (f_L_law_l391 E K f) σ x3 x4 x5 x6 x7 (v_M (a_V A)) x9 (1 - q_ov (a_V A) x6 x7 m) (q_at (a_V A) x6 m) m)
    unfold f_L_law_b391 f_L_law_b431 f_L_law_b427
    rw [if_pos (by unfold zr; omega), if_neg (by omega), if_pos (by unfold zr; omega)]
    by_cases a : q_ov (a_V A) x6 x7 m = 0
    · rw [if_neg (by omega), u1, z_bd, if_pos (by unfold zr; omega)]
      by_cases b : x7 ≤ v_K (a_V A) 1 m
      · rw [if_pos b]
        exact h432 1 (by rw [eo, if_neg (by omega)]; omega)
      · rw [if_neg b, u2, z_bd, if_pos (by unfold zr; omega)]
        by_cases c : x6 < v_K (a_V A) 2 m
        · rw [if_pos c]
          exact h432 0 (by rw [eo, if_pos (by omega)]; omega)
        · rw [if_neg c]
          exact h432 1 (by rw [eo, if_neg (by omega)]; omega)
    · rw [if_pos (by omega)]
      refine h432 0 ?_
      rw [eo]
      split <;> omega
theorem L_317 {E : yE} (hE : e_L E ≤ 260) : ∀ (n f : Nat) (x4 : Int) (A : zA) (σ : zS), n < f → 0 ≤ x4 → x4 + n = 16 → a_ok A → a_C σ A → 0 < v_F (a_V A) → v_M (a_V A) ≤ x4 → s_end (f_L_law_l317 E f σ (v_F (a_V A)) x4) := by
  intro n
  induction n with
  | zero =>
    intro f x4 A σ hf h0 hx hA hC hF0 hM0
    obtain ⟨f, rfl⟩ : ∃ k, f = k + 1 := ⟨f - 1, by omega⟩
    show s_end (f_L_law_b317 E _ σ (v_F (a_V A)) x4)
    unfold f_L_law_b317
    rw [if_pos (by unfold zr; omega), if_pos (by omega)]
    exact L_567 hE 4 z_fuel 0 A σ (by unfold z_fuel; omega) (by omega) (by omega) hA hC
  | succ n ih =>
    intro f x4 A σ hf h0 hx hA hC hF0 hM0
    obtain ⟨f, rfl⟩ : ∃ k, f = k + 1 := ⟨f - 1, by omega⟩
    have hV := hA.2.1
    have hF := hV.1
    have hM := hV.2.1
    obtain ⟨q, u1⟩ := L_cell (E := E) (σ := σ) hE (k := 4 + x4) (by omega)
    obtain ⟨a, u2, ha⟩ := L_up (σ := σ) (z_shr q 2) (m := v_F (a_V A)) (by omega)
    obtain ⟨b, u3, hb⟩ := L_up (σ := σ) (z_shr q 10) (m := 9) (by omega)
    have u4 := s_setting8 hC
    have kk : ∀ (A' : zA) (σ' : zS), a_ok A' → a_C σ' A' → v_F (a_V A') = v_F (a_V A) → v_M (a_V A') ≤ v_M (a_V A) + 1 → s_end (f_L_law_l317 E f σ' (v_F (a_V A)) (x4 + 1)) := by
      intro A' σ' h1 h2 h3 h4
      rw [← h3]
      exact ih f (x4 + 1) A' σ' (by omega) (by omega) (by omega) h1 h2 (by omega) (by omega)
    show s_end (f_L_law_b317 E (f_L_law_l317 E f) σ (v_F (a_V A)) x4)
    unfold f_L_law_b317 f_L_law_b380
    rw [if_pos (by unfold zr; omega), if_neg (by omega), u1, z_bd, u2, z_bd, u3, z_bd, u4, z_bd, if_pos (by unfold zr; omega)]
    by_cases c : v_F (a_V A) < (a + 1) + b
    · rw [if_pos c]
      exact L_391 hA rfl (by omega) (by omega) (by omega) (Or.inr ⟨rfl, c⟩) kk (v_M (a_V A)).toNat z_fuel 0 σ (by unfold z_fuel; omega) (by omega) hC
    · rw [if_neg c]
      exact L_391 hA rfl (by omega) (by omega) (by omega) (Or.inl ⟨rfl, by omega⟩) kk (v_M (a_V A)).toNat z_fuel 0 σ (by unfold z_fuel; omega) (by omega) hC
