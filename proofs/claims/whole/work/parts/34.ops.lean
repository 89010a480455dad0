/-! BABBLE, SETTING, LEVEL, HOLD, UNMARK -/
theorem z_us (x : Int) : 0 ≤ z_ushr x 16 ∧ z_ushr x 16 < 65536 := by
  unfold z_ushr
  show 0 ≤ (x % 4294967296) / ((65536 : Nat) : Int) ∧ (x % 4294967296) / ((65536 : Nat) : Int) < 65536
  omega
theorem z_us10 (x : Int) : 0 ≤ (z_ushr x 16).tmod 10 ∧ (z_ushr x 16).tmod 10 ≤ 9 := by
  have := z_us x
  rw [Int.tmod_eq_emod_of_nonneg this.1]
  omega
theorem o_babble_l {A : zA} {c : Int} (hc : c ≤ 200) (hn : 0 ≤ a_n A ∧ a_n A ≤ 120) (ht : ∀ i, 0 ≤ i → i < a_n A → 32 ≤ a_t A i ∧ a_t A i ≤ 126) (hh : h_ok (a_h A) (a_s A)) : ∀ (n f f' : Nat) (y i : Int) (V : zV) (σ τ : zS), n < f → n < f' → 0 ≤ i → i + n = c → v_ok V → v_F V + n ≤ 200 → a_C σ (a_n A, a_t A, V, a_h A, a_s A) → a_M τ (a_n A, a_t A, V, a_h A, a_s A) → o_eq (f_X5_babble_l48 f σ c y i) (f_X6_babble_l40 f' τ c y i) := by
  intro n
  induction n with
  | zero =>
    intro f f' y i V σ τ hf hf' i0 hi hV hF hC hM
    obtain ⟨f, rfl⟩ : ∃ k, f = k + 1 := ⟨f - 1, by omega⟩
    obtain ⟨f', rfl⟩ : ∃ k, f' = k + 1 := ⟨f' - 1, by omega⟩
    refine ⟨v_F V, σ, τ, (a_n A, a_t A, V, a_h A, a_s A), ?_, ?_, ⟨⟨hn, ht⟩, hV, hh⟩, hC, hM⟩
    · unfold f_X5_babble_l48 f_X5_babble_b48
      rw [if_pos (by unfold zr; omega), if_pos (by omega), (v_C0 hC.2.1).1]
    · unfold f_X6_babble_l40 f_X6_babble_b40
      rw [if_pos (by unfold zr; omega), if_pos (by omega), if_pos (by omega), hM.2.1.1]
  | succ n ih =>
    intro f f' y i V σ τ hf hf' i0 hi hV hF hC hM
    obtain ⟨f, rfl⟩ : ∃ k, f = k + 1 := ⟨f - 1, by omega⟩
    obtain ⟨f', rfl⟩ : ∃ k, f' = k + 1 := ⟨f' - 1, by omega⟩
    have h0 := hV.1
    have h7 : τ 1 7 = v_F V := hM.2.1.1
    have us := z_us (1103515245 * y + 12345)
    have hl := z_us10 (1103515245 * y + 12345)
    obtain ⟨l, hle⟩ : ∃ l, l = (z_ushr (1103515245 * y + 12345) 16).tmod 10 := ⟨_, rfl⟩
    rw [← hle] at hl
    obtain ⟨σ', s1, s2, s3⟩ := c_addFrame (l := l) hC.2.1 hV (by show v_F V < 200; omega)
    have s4 := z_out01 s3
    have x1 : z_ex (fun a _ => a = 1) τ (z_up (z_up τ 1 (10 + v_F V) l) 1 7 (v_F V + 1)) := z_ex_up (z_ex_up z_ex_rf rfl) rfl
    have := ih f f' (1103515245 * y + 12345) (i + 1) (v_push V l) σ' (z_up (z_up τ 1 (10 + v_F V) l) 1 7 (v_F V + 1)) (by omega) (by omega) (by omega) (by omega) (v_push_ok hV (by omega) hl) (by show v_F V + 1 + n ≤ 200; omega) ⟨c_T_of hC.1 (s4 62 (by omega)) (s4 63 (by omega)), s2, c_H_of hC.2.2 hh.1.2 (fun a ha => s4 a (by omega))⟩ ⟨m_T_of hM.1 x1 (by omega) (by omega), m_push hM.2.1 hV (by show v_F V < 200; omega) (fun x => ?_), m_H_of hM.2.2 x1 (by omega) (by omega)⟩
    · have fC : f_X5_babble_l48 (f + 1) σ c y i = f_X5_babble_l48 f σ' c (1103515245 * y + 12345) (i + 1) := by
        show f_X5_babble_b48 (f_X5_babble_l48 f) σ c y i = _
        unfold f_X5_babble_b48
        rw [if_pos (by unfold zr; omega), if_neg (by omega), if_pos (by unfold zr; omega), ← hle, s1, z_bd]
      have fM : f_X6_babble_l40 (f' + 1) τ c y i = f_X6_babble_l40 f' (z_up (z_up τ 1 (10 + v_F V) l) 1 7 (v_F V + 1)) c (1103515245 * y + 12345) (i + 1) := by
        show f_X6_babble_b40 (f_X6_babble_l40 f') τ c y i = _
        unfold f_X6_babble_b40
        rw [if_pos (by unfold zr; omega), if_neg (by omega), if_pos (by omega), if_pos (by unfold zr; omega), h7, if_pos (by omega), z_put, if_pos (by omega), if_pos (by omega), z_put, z_ri (by omega), h7, ← hle]
      rw [fC, fM]
      exact this
    · show z_up (z_up τ 1 (10 + v_F V) l) 1 7 (v_F V + 1) 1 x = if x = 7 then v_F V + 1 else if x = 10 + v_F V then l else τ 1 x
      by_cases e : x = 7
      · rw [if_pos e, e, z_re]
      · rw [if_neg e, z_ri e]
        by_cases e2 : x = 10 + v_F V
        · rw [if_pos e2, e2, z_re]
        · rw [if_neg e2, z_ri e2]
theorem o_babble {A : zA} {σ τ : zS} {x y : Int} (hA : a_ok A) (hC : a_C σ A) (hM : a_M τ A) (hy : zr y) : o_eq (f_X5_babble σ x y) (f_X6_babble τ x y) := by
  obtain ⟨σ', τ', s1, t1, hh, hC', hM', s3, t3⟩ := o_act hA hC hM
  have hA' := hA
  obtain ⟨⟨hn, ht⟩, hV, hh0⟩ := hA
  have hF := hV.1
  have hy' := hy
  unfold zr at hy'
  have h1 := (v_C0 hC.2.1).1
  have h7 := hM.2.1.1
  have hj := m_in (σ := τ) hy (show zr 1 by decide) (show zr 200 by decide)
  by_cases b : 1 ≤ y ∧ y ≤ 200
  · rw [if_pos b] at hj
    by_cases c : v_F (a_V A) + y ≤ 200
    · have fC : f_X5_babble σ x y = f_X5_babble_l48 z_fuel σ' y x 0 := by
        unfold f_X5_babble
        rw [if_pos hy, if_neg (by omega), if_pos hy, if_pos (by omega), h1, if_pos (by unfold zr; omega), if_pos c, s1, z_bd]
      have fM : f_X6_babble τ x y = f_X6_babble_l40 z_fuel τ' y x 0 := by
        unfold f_X6_babble
        rw [hj, z_bd, if_pos (by unfold zr; omega), if_pos (by omega), if_pos (by omega), h7, if_pos (by unfold zr; omega), if_pos c, t1, z_bd]
      rw [fC, fM]
      exact o_babble_l (A := (a_n A, a_t A, a_V A, (a_keep (a_h A) (a_s A) (a_V A)).1, (a_keep (a_h A) (a_s A) (a_V A)).2)) b.2 hn ht hh y.toNat z_fuel z_fuel x 0 (a_V A) σ' τ' (by unfold z_fuel; omega) (by unfold z_fuel; omega) (by omega) (by omega) hV (by omega) hC' hM'
    · refine ⟨-3, σ, τ, A, ?_, ?_, hA', hC, hM⟩
      · unfold f_X5_babble
        rw [if_pos hy, if_neg (by omega), if_pos hy, if_pos (by omega), h1, if_pos (by unfold zr; omega), if_neg c]
      · unfold f_X6_babble
        rw [hj, z_bd, if_pos (by unfold zr; omega), if_pos (by omega), if_pos (by omega), h7, if_pos (by unfold zr; omega), if_neg c]
  · rw [if_neg b] at hj
    refine ⟨-1, σ, τ, A, ?_, ?_, hA', hC, hM⟩
    · unfold f_X5_babble f_X5_babble_b12
      rw [if_pos hy]
      by_cases c : y < 1
      · rw [if_pos c]
      · rw [if_neg c, if_pos hy, if_neg (by omega)]
    · unfold f_X6_babble
      rw [hj, z_bd, if_pos (by unfold zr; omega), if_neg (by omega)]
theorem c_setting {σ : zS} {V : zV} {x : Int} (hC : v_C σ 0 V) (hx : zr x) : f_X5_setting σ x = some (if 0 ≤ x ∧ x < 7 then v_S V x else if x = 7 then v_F V else if x = 8 then v_M V else -1, σ) := by
  have hx' := hx
  unfold zr at hx'
  obtain ⟨h1, h2, h3, h4, h5⟩ := v_C0 hC
  unfold f_X5_setting f_X5_setting_b10 f_X5_setting_b51
  rw [if_pos hx]
  by_cases a : x < 0
  · rw [if_pos a, if_neg (by omega), if_neg (by omega), if_neg (by omega)]
  · rw [if_neg a, if_pos hx]
    by_cases b : x ≤ 8
    · rw [if_pos b, if_pos hx]
      by_cases c : x < 7
      · rw [if_neg (by omega), if_pos (by omega), if_pos (by omega), h5 x (by omega) c]
      · rw [if_pos (by omega), if_pos hx, if_neg (show ¬ (0 ≤ x ∧ x < 7) by omega)]
        by_cases d : x = 7
        · rw [if_neg (by omega), if_pos d, h1]
        · rw [if_pos d, if_neg d, if_pos (by omega), h2]
    · rw [if_neg b, if_neg (by omega), if_neg (by omega), if_neg (by omega)]
theorem m_setting {σ : zS} {V : zV} {x : Int} (hR : v_R (σ 1) V) (hx : zr x) : f_X6_setting σ x = some (if 0 ≤ x ∧ x < 7 then v_S V x else if x = 7 then v_F V else if x = 8 then v_M V else -1, σ) := by
  have hi := m_in (σ := σ) hx (show zr 0 by decide) (show zr 8 by decide)
  obtain ⟨h1, h2, h3, h4, h5⟩ := hR
  unfold f_X6_setting f_X6_setting_b20
  rw [hi, z_bd]
  by_cases a : 0 ≤ x ∧ x ≤ 8
  · rw [if_pos a, if_pos (by decide), if_neg (by omega), if_pos (by omega)]
    by_cases c : x < 7
    · rw [if_pos (show 0 ≤ x ∧ x < 7 by omega), h5 x (by omega) c]
    · rw [if_neg (show ¬ (0 ≤ x ∧ x < 7) by omega)]
      by_cases d : x = 7
      · rw [if_pos d, d, h1]
      · rw [if_neg d, if_pos (by omega), show x = 8 by omega, h2]
  · rw [if_neg a, if_pos (by decide), if_pos rfl, if_neg (by omega), if_neg (by omega), if_neg (by omega)]
theorem o_setting {A : zA} {σ τ : zS} {x : Int} (hA : a_ok A) (hC : a_C σ A) (hM : a_M τ A) (hx : zr x) : o_eq (f_X5_setting σ x) (f_X6_setting τ x) := ⟨_, σ, τ, A, c_setting hC.2.1 hx, m_setting hM.2.1 hx, hA, hC, hM⟩
theorem c_hasFrame {j : Nat} {σ : zS} {V : zV} {x : Int} (hC : v_C σ j V) (hV : v_ok V) (hx : zr x) : f_X2_hasFrame j σ x = some (if 0 ≤ x ∧ x < v_F V then 1 else 0, σ) := by
  have hx' := hx
  unfold zr at hx'
  have h1 := hC.1
  have hF := hV.1
  unfold f_X2_hasFrame f_X2_hasFrame_b16 f_X2_hasFrame_b17
  rw [if_pos hx]
  by_cases a : x < 0
  · rw [if_pos a, if_neg (show ¬ (0 ≤ x ∧ x < v_F V) by omega), if_pos (by omega)]
  · rw [if_neg a, h1, if_pos (by unfold zr; omega)]
    by_cases b : v_F V ≤ x
    · rw [if_pos b, if_neg (show ¬ (0 ≤ x ∧ x < v_F V) by omega), if_pos (by omega)]
    · rw [if_neg b, if_pos (show 0 ≤ x ∧ x < v_F V by omega), if_pos (by omega)]
theorem o_level {A : zA} {σ τ : zS} {x : Int} (hA : a_ok A) (hC : a_C σ A) (hM : a_M τ A) (hx : zr x) : o_eq (f_X5_level σ x) (f_X6_level τ x) := by
  have hV := hA.2.1
  have hF := hV.1
  have h7 := hM.2.1.1
  have h := c_hasFrame hC.2.1 hV hx
  have hl := c_levelAt hC.2.1 hV hx
  have hi := m_in (σ := τ) hx (show zr 0 by decide) (show zr (v_F (a_V A) - 1) by unfold zr; omega)
  unfold q_lv at hl
  by_cases a : 0 ≤ x ∧ x < v_F (a_V A)
  · rw [if_pos a] at h hl
    rw [if_pos (by omega)] at hi
    refine ⟨v_L (a_V A) x, σ, τ, A, ?_, ?_, hA, hC, hM⟩
    · unfold f_X5_level
      rw [h, z_bd, if_pos (by decide), if_pos (by omega), hl, z_bd]
    · unfold f_X6_level f_X6_level_b30
      rw [h7, if_pos (by omega), hi, z_bd, if_pos (by decide), if_neg (by omega), if_pos (by omega), hM.2.1.2.2.1 x a.1 a.2]
  · rw [if_neg a] at h hl
    rw [if_neg (by omega)] at hi
    refine ⟨-1, σ, τ, A, ?_, ?_, hA, hC, hM⟩
    · unfold f_X5_level
      rw [h, z_bd, if_pos (by decide), if_neg (by omega)]
    · unfold f_X6_level f_X6_level_b30
      rw [h7, if_pos (by omega), hi, z_bd, if_pos (by decide), if_pos rfl]
theorem m_isMark {σ : zS} {V : zV} {m : Int} (hR : v_R (σ 1) V) (hV : v_ok V) (hm : zr m) : f_X6_isMark σ m = some (if 0 ≤ m ∧ m < v_M V then 1 else 0, σ) := by
  have hM := hV.2.1
  have h8 := hR.2.1
  have hi := m_in (σ := σ) hm (show zr 0 by decide) (show zr (v_M V - 1) by unfold zr; omega)
  unfold f_X6_isMark
  rw [h8, if_pos (by omega), hi, z_bd]
  by_cases a : 0 ≤ m ∧ m < v_M V
  · rw [if_pos a, if_pos (show 0 ≤ m ∧ m ≤ v_M V - 1 by omega), if_pos (by omega)]
  · rw [if_neg a, if_neg (show ¬ (0 ≤ m ∧ m ≤ v_M V - 1) by omega), if_pos (by omega)]
-- a mark held, or not any more
def v_hold (V : zV) (m on : Int) : zV := (v_F V, v_M V, v_L V, fun c i => if c = 4 ∧ i = m then on else v_K V c i, v_S V)
theorem v_hold_K {V : zV} {m on c i : Int} : v_K (v_hold V m on) c i = if c = 4 ∧ i = m then on else v_K V c i := rfl
theorem v_hold_ne {V : zV} {m on c i : Int} (h : c ≠ 4) : v_K (v_hold V m on) c i = v_K V c i := by rw [v_hold_K, if_neg (fun e => h e.1)]
theorem v_hold_ok {V : zV} {m on : Int} (h : v_ok V) (ho : 0 ≤ on ∧ on ≤ 1) : v_ok (v_hold V m on) := by
  obtain ⟨h1, h2, h3, h4, h5, h6⟩ := h
  refine ⟨h1, h2, h3, fun i i0 i1 => ?_, fun i i0 i1 => ?_, h6⟩
  · have h := h4 i i0 i1
    unfold v_mok at *
    rw [v_hold_ne (by omega), v_hold_ne (by omega), v_hold_ne (by omega), v_hold_ne (by omega), v_hold_K]
    refine ⟨h.1, h.2.1, h.2.2.1, ?_⟩
    by_cases e : (4 : Int) = 4 ∧ i = m
    · rw [if_pos e]; exact ho
    · rw [if_neg e]; exact h.2.2.2
  · have h := h5 i i0 i1
    rw [v_hold_ne (by omega), v_hold_ne (by omega)]
    exact h
theorem o_hold {A : zA} {σ τ : zS} {m on y : Int} (hA : a_ok A) (hC : a_C σ A) (hM : a_M τ A) (hm : zr m) (hy : on = 0 ∨ on = 1) (hon : y = on) : o_eq (f_X5_hold σ m y) (f_X6_hold τ m y) := by
  subst hon
  obtain ⟨σ', τ', s1, t1, hh, hC', hM', s3, t3⟩ := o_act hA hC hM
  have hV := hA.2.1
  have hMk := hV.2.1
  have h := c_hasMark hC.2.1 hV hm
  have hi := m_isMark hM.2.1 hV hm
  by_cases a : 0 ≤ m ∧ m < v_M (a_V A)
  · rw [if_pos a] at h hi
    have hk := hV.2.2.2.1 m a.1 a.2
    unfold v_mok at hk
    obtain ⟨g0, g1, g2, g3, g4⟩ := (v_C0 hC'.2.1).2.2.2.1 m a.1 a.2
    obtain ⟨k0, k1, k2, k3, k4⟩ := hM'.2.1.2.2.2.1 m a.1 a.2
    have x1 : z_ex (fun a _ => a = 1) τ' (z_up τ' 1 (210 + 5 * m + 4) y) := z_ex_up z_ex_rf rfl
    refine ⟨v_K (a_V A) 4 m, z_up σ' 6 m y, z_up τ' 1 (210 + 5 * m + 4) y, (a_n A, a_t A, v_hold (a_V A) m y, (a_keep (a_h A) (a_s A) (a_V A)).1, (a_keep (a_h A) (a_s A) (a_V A)).2), ?_, ?_, ⟨hA.1, v_hold_ok hV (by omega), hh⟩, ⟨c_T_of hC'.1 (by funext b; rw [z_rn (by omega)]) (by funext b; rw [z_rn (by omega)]), ?_, c_H_of hC'.2.2 hh.1.2 (fun a ha => by funext b; rw [z_rn (by omega)])⟩, ⟨m_T_of hM'.1 x1 (by omega) (by omega), ?_, m_H_of hM'.2.2 x1 (by omega) (by omega)⟩⟩
    · unfold f_X5_hold f_X5_hold_b41
      have g4 : σ' 6 m = v_K (a_V A) 4 m := g4
      rw [h, z_bd, if_pos (by decide), if_pos (by omega), s1, z_bd, if_pos (by omega), g4, if_pos (by unfold zr; omega)]
      by_cases e : v_K (a_V A) 4 m = 0
      · rw [if_pos e, if_pos (by omega), z_put, e]
      · rw [if_neg e, if_pos (by omega), z_put, show v_K (a_V A) 4 m = 1 by omega]
    · have k4 : τ' 1 (210 + 5 * m + 4) = v_K (a_V A) 4 m := k4
      have hs : ∀ z : Int, f_X6_sets τ (210 + 5 * m + 4) z = some (v_K (a_V A) 4 m, z_up τ' 1 (210 + 5 * m + 4) z) := by
        intro z
        unfold f_X6_sets
        rw [t1, z_bd, if_pos (by omega), if_pos (by omega), z_put, k4]
      unfold f_X6_hold f_X6_hold_b27 f_X6_hold_b34
      rw [hi, z_bd, if_pos (by decide), if_neg (by omega), if_pos (by unfold zr; omega)]
      by_cases e : y = 0
      · rw [if_pos e, hs, z_bd, e]
      · rw [if_neg e, hs, z_bd, show y = 1 by omega]
    · obtain ⟨f1, f2, f3, f4, f5⟩ := v_C0 hC'.2.1
      refine ⟨by rw [z_rn (by omega)]; exact f1, by rw [z_rn (by omega)]; exact f2, fun i i0 i1 => by rw [z_rn (by omega)]; exact f3 i i0 i1, fun i i0 i1 => ?_, fun i i0 i1 => by rw [z_rn (by omega)]; exact f5 i i0 i1⟩
      obtain ⟨e0, e1, e2, e3, e4⟩ := f4 i i0 i1
      rw [z_rn (by omega), z_rn (by omega), z_rn (by omega), z_rn (by omega)]
      rw [v_hold_ne (by omega), v_hold_ne (by omega), v_hold_ne (by omega), v_hold_ne (by omega), v_hold_K]
      refine ⟨e0, e1, e2, e3, ?_⟩
      by_cases e : i = m
      · rw [if_pos ⟨rfl, e⟩, e, z_re]
      · rw [if_neg (fun h => e h.2), z_ri e]; exact e4
    · obtain ⟨f1, f2, f3, f4, f5⟩ := hM'.2.1
      have hF := hV.1
      refine ⟨by rw [z_ri (by omega)]; exact f1, by rw [z_ri (by omega)]; exact f2, fun i i0 i1 => by have i1 : i < v_F (a_V A) := i1; rw [z_ri (by omega)]; exact f3 i i0 i1, fun i i0 i1 => ?_, fun i i0 i1 => by rw [z_ri (by omega)]; exact f5 i i0 i1⟩
      obtain ⟨e0, e1, e2, e3, e4⟩ := f4 i i0 i1
      rw [z_ri (by omega), z_ri (by omega), z_ri (by omega), z_ri (by omega)]
      rw [v_hold_ne (by omega), v_hold_ne (by omega), v_hold_ne (by omega), v_hold_ne (by omega), v_hold_K]
      refine ⟨e0, e1, e2, e3, ?_⟩
      by_cases e : i = m
      · rw [if_pos ⟨rfl, e⟩, e, z_re]
      · rw [if_neg (fun h => e h.2), z_ri (by omega)]; exact e4
  · rw [if_neg a] at h hi
    refine ⟨-1, σ, τ, A, ?_, ?_, hA, hC, hM⟩
    · unfold f_X5_hold
      rw [h, z_bd, if_pos (by decide), if_neg (by omega)]
    · unfold f_X6_hold f_X6_hold_b34
      rw [hi, z_bd, if_pos (by decide), if_pos rfl]
