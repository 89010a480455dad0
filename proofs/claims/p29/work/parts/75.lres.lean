/-! THE LAW'S CHECK OF THE RESULT -/
/-- how many of the first frames are the recording's own -/
abbrev q_own (V : zV) (n : Nat) : Int := q_sum (fun j => if (q_P V).2.1 j < 1000 then 1 else 0) n
abbrev q_pau (V : zV) (n : Nat) : Int := q_sum (fun j => if (q_P V).2.1 j < 1000 then 0 else 1) n
theorem q_own_pau (V : zV) : ∀ n : Nat, q_own V n + q_pau V n = n ∧ 0 ≤ q_own V n ∧ 0 ≤ q_pau V n := by
  intro n
  induction n with
  | zero => exact ⟨rfl, Int.le_refl _, Int.le_refl _⟩
  | succ n ih =>
    have e1 : q_own V (n + 1) = q_own V n + (if (q_P V).2.1 n < 1000 then 1 else 0) := rfl
    have e2 : q_pau V (n + 1) = q_pau V n + (if (q_P V).2.1 n < 1000 then 0 else 1) := rfl
    rw [e1, e2]
    split <;> omega
theorem q_lev_ok {V : zV} (hV : v_ok V) : ∀ n : Nat, (n : Int) ≤ (q_P V).1 → 0 ≤ q_sum (q_P V).2.2 n ∧ q_sum (q_P V).2.2 n ≤ 1800 := by
  intro n hn
  have hF := hV.1
  have hr := q_Pok hV
  have := q_sum_le (f := (q_P V).2.2) (b := 9) n (fun i i0 i1 => (hr.2.1 i (by omega) (by omega)).1)
  have h1 := hr.1
  omega
theorem L_res307 {A : zA} {σ : zS} (hA : a_ok A) (hC : a_C σ A) {s0 s1 : Int} (h0 : 0 ≤ s0 ∧ s0 < s1) (h1 : s1 ≤ 200) : s_to (f_L_result_b307 σ (q_P (a_V A)).1 s0 s1) 1 A := by
  have hF := hA.2.1.1
  have hr := (q_Pok hA.2.1).1
  obtain ⟨z, ⟨σ1, u1, C1⟩, hz⟩ := s_silence hA hC
  refine ⟨σ1, ?_, C1⟩
  unfold f_L_result_b307
  rw [if_pos (by unfold zr; omega), if_neg (by omega), u1, z_bd, if_pos (by unfold zr; omega), if_neg (by omega)]
  unfold f_L_result_b323
  rw [if_pos (by omega)]
theorem L_res243 {A : zA} {σ : zS} (hA : a_ok A) (hC : a_C σ A) : s_to (f_L_result_b243 σ (q_P (a_V A)).1 (q_sum (q_w (q_C (a_V A)) 1) (q_C (a_V A)).1.toNat) (q_sum (q_w (q_C (a_V A)) 0) (q_C (a_V A)).1.toNat) (if (q_P (a_V A)).1 = 0 then (0, 0) else (q_sum (q_P (a_V A)).2.2 (q_P (a_V A)).1.toNat, (q_P (a_V A)).1)) (if v_F (a_V A) = 0 then (0, 0) else (v_F (a_V A) - q_sum (q_w (q_C (a_V A)) 0) (q_C (a_V A)).1.toNat, v_F (a_V A)))) 1 A := by
  have hV := hA.2.1
  have hF := hV.1
  have hr := (q_Pok hV).1
  have hk : q_cok (a_V A) (q_C (a_V A)) (v_M (a_V A)) := q_kok hV _ _
  have hn := hk.1
  have w0 := q_w_ok hV (x := 0) (by omega) (q_C (a_V A)).1.toNat (by omega)
  have w1 := q_w_ok hV (x := 1) (by omega) (q_C (a_V A)).1.toNat (by omega)
  obtain ⟨σ1, u1, C1⟩ := s_sum (x := 1) hA hC (by omega)
  obtain ⟨σ2, u2, C2⟩ := s_sum (x := 0) hA C1 (by omega)
  obtain ⟨σ3, u3, C3⟩ := s_loud hA C2
  obtain ⟨σ4, u4, C4⟩ := s_share hA C3
  obtain ⟨z5, ⟨σ5, u5, C5⟩, h5a, h5b, h5c, h5d⟩ := s_clicks (x := 9) hA C4 (by omega)
  obtain ⟨z6, ⟨σ6, u6, C6⟩, h6a, h6b, h6c, h6d⟩ := s_clicks (x := 0) hA C5 (by omega)
  have hz5 := h5d rfl
  have z3 : zr (if (q_P (a_V A)).1 = 0 then ((0 : Int), (0 : Int)) else (q_sum (q_P (a_V A)).2.2 (q_P (a_V A)).1.toNat, (q_P (a_V A)).1)).2 := by
    by_cases e : (q_P (a_V A)).1 = 0
    · rw [if_pos e]; decide
    · rw [if_neg e]; show zr (q_P (a_V A)).1; unfold zr; omega
  have z4 : zr (if v_F (a_V A) = 0 then ((0 : Int), (0 : Int)) else (v_F (a_V A) - q_sum (q_w (q_C (a_V A)) 0) (q_C (a_V A)).1.toNat, v_F (a_V A))).2 := by
    by_cases e : v_F (a_V A) = 0
    · rw [if_pos e]; decide
    · rw [if_neg e]; show zr (v_F (a_V A)); unfold zr; omega
  unfold f_L_result_b243
  rw [u1, z_bd, if_pos (by unfold zr; omega), if_neg (by omega), u2, z_bd, if_pos (by unfold zr; omega), if_neg (by omega), u3, z_bd, if_pos ⟨rfl, z3⟩, if_pos (by decide), if_neg (by omega), u4, z_bd, if_pos ⟨rfl, z4⟩, if_pos (by decide), if_neg (by omega), u5, z_bd, if_pos (by unfold zr; omega), if_neg (by omega), u6, z_bd, if_pos (by unfold zr; omega)]
  by_cases e : (q_P (a_V A)).1 = 0
  · rw [if_neg (by omega)]
    exact L_res307 hA C6 (by have := h6b e; omega) (by omega)
  · rw [if_pos e]
    exact L_res307 hA C6 (by have := h6c (by omega); omega) (by omega)
theorem L_res217 {A : zA} {σ : zS} (hA : a_ok A) (hC : a_C σ A) {x5 : Int} (h5 : x5 = v_F (a_V A) - q_sum (q_w (q_C (a_V A)) 0) (q_C (a_V A)).1.toNat) : s_to (f_L_result_b217 σ (q_P (a_V A)).1 (q_sum (q_w (q_C (a_V A)) 1) (q_C (a_V A)).1.toNat) x5 (q_sum (q_w (q_C (a_V A)) 0) (q_C (a_V A)).1.toNat) (if (q_P (a_V A)).1 = 0 then (0, 0) else (q_sum (q_P (a_V A)).2.2 (q_P (a_V A)).1.toNat, (q_P (a_V A)).1))) 1 A := by
  have hV := hA.2.1
  have hF := hV.1
  have h := L_res243 hA hC
  unfold f_L_result_b217
  rw [s_setting7 hC, z_bd, if_pos (by unfold zr; omega)]
  by_cases e : v_F (a_V A) = 0
  · rw [if_pos e] at h
    rw [if_neg (by omega)]
    exact h
  · rw [if_neg e] at h
    rw [if_pos e, s_setting7 hC, z_bd, if_pos e, h5]
    exact h
theorem L_res167_l {A : zA} (hA : a_ok A) {x5 : Int} (h5 : x5 = v_F (a_V A) - q_sum (q_w (q_C (a_V A)) 0) (q_C (a_V A)).1.toNat) : ∀ (n f k : Nat) (σ : zS), n < f → (k : Int) + n = v_F (a_V A) → a_C σ A → s_to (f_L_result_l167 f σ (q_P (a_V A)).1 (q_sum (q_w (q_C (a_V A)) 1) (q_C (a_V A)).1.toNat) (q_sum (q_P (a_V A)).2.2 (q_P (a_V A)).1.toNat) x5 (q_sum (q_ab (q_P (a_V A))) k) k) 1 A := by
  intro n
  have hV := hA.2.1
  have hF := hV.1
  have hr := (q_Pok hV).1
  induction n with
  | zero =>
    intro f k σ hf hk hC
    obtain ⟨f, rfl⟩ : ∃ k, f = k + 1 := ⟨f - 1, by omega⟩
    have hI := (q_invP hV).2.2.2.2.2
    rw [show (v_F (a_V A)).toNat = k by omega] at hI
    show s_to (f_L_result_b167 _ σ _ _ _ _ _ _) 1 A
    unfold f_L_result_b167
    rw [s_setting7 hC, z_bd, if_pos (by unfold zr; omega), if_pos (by omega), if_pos (by unfold zr; omega), hI]
    have h := L_res217 hA hC h5
    by_cases e : (q_P (a_V A)).1 = 0
    · rw [if_pos e] at h
      rw [if_neg (by omega)]
      exact h
    · rw [if_neg e] at h
      rw [if_pos e, if_pos e]
      exact h
  | succ n ih =>
    intro f k σ hf hk hC
    obtain ⟨f, rfl⟩ : ∃ k, f = k + 1 := ⟨f - 1, by omega⟩
    obtain ⟨σ1, u1, C1⟩ := s_where (x := k) hA hC (by omega)
    have hw := q_wh_range (q_P (a_V A)) k (q_P (a_V A)).1.toNat 0 (by omega)
    have hs : q_sum (q_ab (q_P (a_V A))) (k + 1) = q_sum (q_ab (q_P (a_V A))) k + q_ab (q_P (a_V A)) k := rfl
    have hi := ih f (k + 1) σ1 (by omega) (by omega) C1
    rw [hs, show ((k + 1 : Nat) : Int) = (k : Int) + 1 by omega] at hi
    show s_to (f_L_result_b167 _ σ _ _ _ _ _ _) 1 A
    unfold f_L_result_b167 f_L_result_b194
    rw [s_setting7 hC, z_bd, if_pos (by unfold zr; omega), if_neg (by omega), u1, z_bd, if_pos (by unfold zr; omega)]
    rcases q_wh_ab (q_P (a_V A)) k hr.1 with ⟨h1, h2⟩ | ⟨h1, h2⟩
    · rw [if_neg (by omega)]
      rw [h2] at hi
      exact hi
    · rw [if_pos h1]
      rw [h2] at hi
      exact hi
theorem L_res18_l {A : zA} (hA : a_ok A) : ∀ (n f k : Nat) (x2 : Int) (σ : zS), n < f → (k : Int) + n = (q_P (a_V A)).1 → a_C σ A → (0 ≤ x2 ∧ x2 ≤ 1000) → (∀ j, (k : Int) ≤ j → j < (q_P (a_V A)).1 → (q_P (a_V A)).2.1 j < 1000 → x2 ≤ (q_P (a_V A)).2.1 j) → s_to (f_L_result_l18 f σ (q_P (a_V A)).1 x2 (q_pau (a_V A) k) (q_sum (q_P (a_V A)).2.2 k) (q_own (a_V A) k) k) 1 A := by
  intro n
  have hV := hA.2.1
  have hF := hV.1
  have hP := q_Pok hV
  have hr := hP.1
  have hI := q_invP hV
  induction n with
  | zero =>
    intro f k x2 σ hf hk hC hx hx2
    obtain ⟨f, rfl⟩ : ∃ k, f = k + 1 := ⟨f - 1, by omega⟩
    have ek : (q_P (a_V A)).1.toNat = k := by omega
    have hop := (q_own_pau (a_V A) k).1
    have h4 := hI.2.2.2.2.1
    rw [ek] at h4
    have h4 : q_pau (a_V A) k = _ := h4
    have hN := q_P_n hV
    show s_to (f_L_result_b18 _ σ _ _ _ _ _ _) 1 A
    unfold f_L_result_b18
    rw [if_pos (by unfold zr; omega), if_pos (by omega)]
    have h := L_res167_l hA (x5 := q_own (a_V A) k) (by omega) (v_F (a_V A)).toNat z_fuel 0 σ (by unfold z_fuel; omega) (by omega) hC
    rw [ek] at h
    rw [h4]
    exact h
  | succ n ih =>
    intro f k x2 σ hf hk hC hx hx2
    obtain ⟨f, rfl⟩ : ∃ k, f = k + 1 := ⟨f - 1, by omega⟩
    have k1 : (k : Int) < (q_P (a_V A)).1 := by omega
    have k0 : 0 ≤ (k : Int) := by omega
    obtain ⟨p1, p2⟩ := hP.2.1 k k0 k1
    obtain ⟨s1, s2⟩ := hI.2.1 k k0 k1
    obtain ⟨σ1, u1, C1⟩ := s_heard (x := k) (c := 0) hA hC ⟨k0, k1⟩ (Or.inl rfl)
    obtain ⟨σ2, u2, C2⟩ := s_heard (x := k) (c := 1) hA C1 ⟨k0, k1⟩ (Or.inr rfl)
    rw [if_pos rfl] at u1
    rw [if_neg (by omega)] at u2
    have eo : q_own (a_V A) (k + 1) = q_own (a_V A) k + (if (q_P (a_V A)).2.1 k < 1000 then 1 else 0) := rfl
    have ep : q_pau (a_V A) (k + 1) = q_pau (a_V A) k + (if (q_P (a_V A)).2.1 k < 1000 then 0 else 1) := rfl
    have es : q_sum (q_P (a_V A)).2.2 (k + 1) = q_sum (q_P (a_V A)).2.2 k + (q_P (a_V A)).2.2 k := rfl
    show s_to (f_L_result_b18 _ σ _ _ _ _ _ _) 1 A
    unfold f_L_result_b18
    rw [if_pos (by unfold zr; omega), if_neg (by omega), u1, z_bd, u2, z_bd, if_pos (by unfold zr; omega)]
    by_cases a : (q_P (a_V A)).2.1 k < 1000
    · obtain ⟨t1, t2⟩ := s1 a
      have hq := q_hl_le hV t1.1 t1.2
      have hl := hV.2.2.1 _ t1.1 t1.2
      have htd : (v_L (a_V A) ((q_P (a_V A)).2.1 k)).tdiv 2 = v_L (a_V A) ((q_P (a_V A)).2.1 k) / 2 := q_tdiv hl.1
      have hx3 := hx2 k (Int.le_refl _) k1 a
      have hw := q_wh_at hP k1 a (q_P (a_V A)).1.toNat 0 (by omega) k0 (by omega)
      obtain ⟨σ3, u3, C3⟩ := s_where (x := (q_P (a_V A)).2.1 k) hA C2 t1
      rw [hw] at u3
      have u4 := s_level (x := (q_P (a_V A)).2.1 k) hA C3 t1
      rw [if_pos a] at eo ep
      have hi := ih f (k + 1) ((q_P (a_V A)).2.1 k + 1) σ3 (by omega) (by omega) C3 (by omega) (fun j j0 j1 hj => by
        have := hI.2.2.2.1 k j k0 (by omega) j1 a hj
        omega)
      rw [eo, ep, es, show ((k + 1 : Nat) : Int) = (k : Int) + 1 by omega, show q_pau (a_V A) k + 0 = q_pau (a_V A) k by omega] at hi
      rw [if_neg (by omega), if_pos (by unfold zr; omega), if_neg (by omega), u3, z_bd, if_pos (by unfold zr; omega), if_neg (by omega), u4, z_bd, if_pos (by unfold zr; omega), if_neg (by omega), u4, z_bd, if_pos (by unfold zr; omega), if_pos (by unfold zr; omega), if_pos (by omega)]
      exact hi
    · have hi := ih f (k + 1) x2
      rw [if_neg a] at eo ep
      rw [if_pos (by omega), if_pos (by unfold zr; omega)]
      rcases s2 (by omega) with ⟨t1, t2⟩ | ⟨t1, t2⟩
      · have hi := hi σ2 (by omega) (by omega) C2 hx (fun j j0 j1 hj => hx2 j (by omega) j1 hj)
        rw [eo, ep, es, show ((k + 1 : Nat) : Int) = (k : Int) + 1 by omega, show q_own (a_V A) k + 0 = q_own (a_V A) k by omega] at hi
        rw [if_neg (by omega), if_pos (by unfold zr; omega), if_pos t2]
        exact hi
      · have u4 := s_level (x := (q_P (a_V A)).2.1 k - 1000) hA C2 t1
        have hl := hV.2.2.1 _ t1.1 t1.2
        have hi := hi σ2 (by omega) (by omega) C2 hx (fun j j0 j1 hj => hx2 j (by omega) j1 hj)
        rw [eo, ep, es, show ((k + 1 : Nat) : Int) = (k : Int) + 1 by omega, show q_own (a_V A) k + 0 = q_own (a_V A) k by omega] at hi
        rw [if_pos (by omega), if_pos (by unfold zr; omega), if_neg (by omega), u4, z_bd, if_pos (by unfold zr; omega), if_pos t2]
        exact hi
theorem L_result {A : zA} {σ : zS} (hA : a_ok A) (hC : a_C σ A) : s_to (f_L_result σ) 1 A := by
  have hV := hA.2.1
  have hF := hV.1
  have hP := q_Pok hV
  have hr := hP.1
  obtain ⟨σ1, u1, C1⟩ := s_length hA hC
  unfold f_L_result
  rw [u1, z_bd]
  exact L_res18_l hA (q_P (a_V A)).1.toNat z_fuel 0 0 σ1 (by unfold z_fuel; omega) (by omega) C1 (by omega) (fun j j0 j1 hj => ((q_invP hV).2.1 j j0 j1).1 hj |>.1.1)
