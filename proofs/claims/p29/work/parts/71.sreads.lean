/-! EACH CALL OF THE CLASS THAT ONLY READS -/
theorem s_setting {A : zA} {σ : zS} {x : Int} (hC : a_C σ A) (hx : 0 ≤ x ∧ x ≤ 6) : f_X5_setting σ x = some (v_S (a_V A) x, σ) := by
  rw [c_setting hC.2.1 (by unfold zr; omega), if_pos (by omega)]
theorem s_setting7 {A : zA} {σ : zS} (hC : a_C σ A) : f_X5_setting σ 7 = some (v_F (a_V A), σ) := by
  rw [c_setting hC.2.1 (by decide), if_neg (by omega), if_pos rfl]
theorem s_setting8 {A : zA} {σ : zS} (hC : a_C σ A) : f_X5_setting σ 8 = some (v_M (a_V A), σ) := by
  rw [c_setting hC.2.1 (by decide), if_neg (by omega), if_neg (by omega), if_pos rfl]
theorem s_settingBad {A : zA} {σ : zS} (hC : a_C σ A) : f_X5_setting σ 9 = some (-1, σ) := by
  rw [c_setting hC.2.1 (by decide), if_neg (by omega), if_neg (by omega), if_neg (by omega)]
theorem s_about {A : zA} {σ : zS} {m c : Int} (hA : a_ok A) (hC : a_C σ A) (a : 0 ≤ m ∧ m < v_M (a_V A)) (hc : 0 ≤ c ∧ c ≤ 4) : f_X5_about σ m c = some (v_K (a_V A) c m, σ) := by
  have hV := hA.2.1
  have hMk := hV.2.1
  have hz : zr c := by unfold zr; omega
  have h := c_hasMark hC.2.1 hV (x := m) (by unfold zr; omega)
  rw [if_pos a] at h
  unfold f_X5_about
  rw [h, z_bd, if_pos (by decide), if_neg (by omega), if_pos hz, if_neg (by omega), if_pos hz, if_pos (by omega), if_pos hz, if_pos (by omega), c_num hC.2.1 hV a.1 a.2 (by omega), z_bd]
theorem s_about5 {A : zA} {σ : zS} {m : Int} (hA : a_ok A) (hC : a_C σ A) (a : 0 ≤ m ∧ m < v_M (a_V A)) : s_to (f_X5_about σ m 5) (q_cutOf (q_C (a_V A)) m (q_C (a_V A)).1.toNat 0) A := by
  have hV := hA.2.1
  have hMk := hV.2.1
  have hk : q_cok (a_V A) (q_C (a_V A)) (v_M (a_V A)) := q_kok hV _ _
  have hn := hk.1
  have hm : zr m := by unfold zr; omega
  have h := c_hasMark hC.2.1 hV hm
  rw [if_pos a] at h
  obtain ⟨σ', s1, s2, s3⟩ := c_cur hC.2.1 hV
  refine ⟨σ', ?_, a_C48 hA hC s3⟩
  unfold f_X5_about
  rw [h, z_bd, if_pos (by decide), if_neg (by omega), if_pos (by decide), if_neg (by omega), if_pos (by decide), if_pos (by omega), if_pos (by decide), if_neg (by omega), s1, z_bd, c_cutOf s2 hk hMk.2 hm (by omega), z_bd]
theorem s_aboutBad {A : zA} {σ : zS} {m c : Int} (hA : a_ok A) (hC : a_C σ A) (hm : zr m) (a : ¬ (0 ≤ m ∧ m < v_M (a_V A))) : f_X5_about σ m c = some (-1, σ) := by
  have h := c_hasMark hC.2.1 hA.2.1 hm
  rw [if_neg a] at h
  unfold f_X5_about f_X5_about_b20
  rw [h, z_bd, if_pos (by decide), if_pos rfl]
theorem s_cuts {A : zA} {σ : zS} (hA : a_ok A) (hC : a_C σ A) : s_to (f_X5_cuts σ) (q_C (a_V A)).1 A := by
  obtain ⟨σ', s1, s2, s3⟩ := c_cur hC.2.1 hA.2.1
  refine ⟨σ', ?_, a_C48 hA hC s3⟩
  unfold f_X5_cuts
  rw [s1, z_bd, s2.1]
theorem s_cut {A : zA} {σ : zS} {x c : Int} (hA : a_ok A) (hC : a_C σ A) (a : 0 ≤ x ∧ x < (q_C (a_V A)).1) (b : 0 ≤ c ∧ c ≤ 4) : s_to (f_X5_cut σ x c) ((q_C (a_V A)).2 c x) A := by
  have hV := hA.2.1
  have hMk := hV.2.1
  have hk : q_cok (a_V A) (q_C (a_V A)) (v_M (a_V A)) := q_kok hV _ _
  have hn := hk.1
  have hx : zr x := by unfold zr; omega
  have hc : zr c := by unfold zr; omega
  obtain ⟨σ', s1, s2, s3⟩ := c_cur hC.2.1 hV
  have h5 := s2.1
  refine ⟨σ', ?_, a_C48 hA hC s3⟩
  unfold f_X5_cut
  rw [s1, z_bd, if_pos hx, if_neg (by omega), h5, if_pos (by unfold zr; omega), if_neg (by omega), if_pos hc, if_neg (by omega), if_pos hc, if_pos (by omega), c_numCut s2 hk hMk.2 a b, z_bd]
theorem s_cutBad {A : zA} {σ : zS} {x c : Int} (hA : a_ok A) (hC : a_C σ A) (hx : zr x) (hc : zr c) (a : ¬ ((0 ≤ x ∧ x < (q_C (a_V A)).1) ∧ 0 ≤ c ∧ c ≤ 4)) : s_to (f_X5_cut σ x c) (-1) A := by
  have hV := hA.2.1
  have hMk := hV.2.1
  have hk : q_cok (a_V A) (q_C (a_V A)) (v_M (a_V A)) := q_kok hV _ _
  have hn := hk.1
  obtain ⟨σ', s1, s2, s3⟩ := c_cur hC.2.1 hV
  have h5 := s2.1
  refine ⟨σ', ?_, a_C48 hA hC s3⟩
  unfold f_X5_cut f_X5_cut_b26
  rw [s1, z_bd, if_pos hx]
  by_cases d : x < 0
  · rw [if_pos d]
  · rw [if_neg d, h5, if_pos (by unfold zr; omega)]
    by_cases e : (q_C (a_V A)).1 ≤ x
    · rw [if_pos e]
    · rw [if_neg e, if_pos hc]
      by_cases f : c < 0
      · rw [if_pos f]
      · rw [if_neg f, if_pos hc, if_neg (by omega)]
theorem s_sum {A : zA} {σ : zS} {x : Int} (hA : a_ok A) (hC : a_C σ A) (a : 0 ≤ x ∧ x ≤ 2) : s_to (f_X5_sum σ x) (q_sum (q_w (q_C (a_V A)) x) (q_C (a_V A)).1.toNat) A := by
  have hV := hA.2.1
  have hMk := hV.2.1
  have hk : q_cok (a_V A) (q_C (a_V A)) (v_M (a_V A)) := q_kok hV _ _
  have hn := hk.1
  obtain ⟨σ', s1, s2, s3⟩ := c_cur hC.2.1 hV
  refine ⟨σ', ?_, a_C48 hA hC s3⟩
  unfold f_X5_sum
  rw [s1, z_bd, if_pos (by unfold zr; omega)]
  rcases (show x = 0 ∨ x = 1 ∨ x = 2 by omega) with rfl | rfl | rfl
  · rw [if_pos rfl, c_cutFrames s2 (by omega), z_bd]; rfl
  · rw [if_neg (by omega), if_pos rfl, c_pauseFrames s2 (by omega), z_bd]; rfl
  · rw [if_neg (by omega), if_neg (by omega), if_pos rfl, c_roughCuts s2 hk (by omega), z_bd]; rfl
theorem s_sumBad {A : zA} {σ : zS} (hA : a_ok A) (hC : a_C σ A) : s_to (f_X5_sum σ 3) (-1) A := by
  obtain ⟨σ', s1, s2, s3⟩ := c_cur hC.2.1 hA.2.1
  refine ⟨σ', ?_, a_C48 hA hC s3⟩
  unfold f_X5_sum
  rw [s1, z_bd, if_pos (by decide), if_neg (by omega), if_neg (by omega), if_neg (by omega)]
/-- the window with fewest rough cuts, from w on, where b with x is the best before -/
theorem s_best_l {V : zV} (hV : v_ok V) : ∀ (n f : Nat) (w b x : Int) (σ : zS), n < f → 0 ≤ w → w + n = 21 → v_C σ 0 V → 0 ≤ b ∧ b ≤ 20 → ((w = 0 ∧ x = 21) ∨ (0 < w ∧ x = q_ro V (v_S V 0) b)) → (∀ u, 0 ≤ u → u < w → x ≤ q_ro V (v_S V 0) u) → (∀ u, 0 ≤ u → u < b → x < q_ro V (v_S V 0) u) → ∃ (r : Int) (σ' : zS), f_X5_bestWindow_l7 f σ b x w = some (r, σ') ∧ z_out 48 53 σ σ' ∧ (0 ≤ r ∧ r ≤ 20) ∧ (∀ u, 0 ≤ u → u ≤ 20 → q_ro V (v_S V 0) r ≤ q_ro V (v_S V 0) u) ∧ ∀ u, 0 ≤ u → u < r → q_ro V (v_S V 0) r < q_ro V (v_S V 0) u := by
  intro n
  have k0 := hV.2.2.2.2.2.1
  induction n with
  | zero =>
    intro f w b x σ hf w0 hw hC hb hx h1 h2
    obtain ⟨f, rfl⟩ : ∃ k, f = k + 1 := ⟨f - 1, by omega⟩
    have hx : x = q_ro V (v_S V 0) b := by omega
    refine ⟨b, σ, ?_, z_out_rf, hb, fun u u0 u1 => ?_, fun u u0 u1 => ?_⟩
    · show f_X5_bestWindow_b7 _ σ b x w = _
      unfold f_X5_bestWindow_b7
      rw [if_pos (by unfold zr; omega), if_pos (by omega)]
    · rw [← hx]; exact h1 u u0 (by omega)
    · rw [← hx]; exact h2 u u0 u1
  | succ n ih =>
    intro f w b x σ hf w0 hw hC hb hx h1 h2
    obtain ⟨f, rfl⟩ : ∃ k, f = k + 1 := ⟨f - 1, by omega⟩
    have hk := q_kok hV (v_S V 0) w
    have hM := hV.2.1
    have hn := hk.1
    have hro := q_ro_ok hV (v_S V 0) w
    have hrb := q_ro_ok hV (v_S V 0) b
    have s0 := (v_C0 hC).2.2.2.2 0 (by omega) (by omega)
    obtain ⟨σ1, c1, c2, c3⟩ := c_find (d := v_S V 0) (w := w) hC hV k0 (by omega)
    have hrc : f_X0_roughCuts σ1 = some (q_ro V (v_S V 0) w, σ1) := c_roughCuts c2 hk (by omega)
    by_cases e : q_ro V (v_S V 0) w < x
    · obtain ⟨r, σ', t1, t2, t3⟩ := ih f (w + 1) w (q_ro V (v_S V 0) w) σ1 (by omega) (by omega) (by omega) (v_C_out hC c3 (by omega)) (by omega) (Or.inr ⟨by omega, rfl⟩) (fun u u0 u1 => by
        by_cases h : u = w
        · rw [h]; exact Int.le_refl _
        · have := h1 u u0 (by omega); omega) (fun u u0 u1 => by have := h1 u u0 (by omega); omega)
      refine ⟨r, σ', ?_, z_out_tr c3 t2, t3⟩
      show f_X5_bestWindow_b7 _ σ b x w = _
      unfold f_X5_bestWindow_b7 f_X5_bestWindow_b54
      rw [if_pos (by unfold zr; omega), if_neg (by omega), if_pos (by omega), s0, c1, z_bd, hrc, z_bd, if_pos (by unfold zr; omega), if_neg (by omega)]
      exact t1
    · obtain ⟨r, σ', t1, t2, t3⟩ := ih f (w + 1) b x σ1 (by omega) (by omega) (by omega) (v_C_out hC c3 (by omega)) hb (by
        rcases hx with hx | hx
        · omega
        · exact Or.inr ⟨by omega, hx.2⟩) (fun u u0 u1 => by
        by_cases h : u = w
        · rw [h]; omega
        · exact h1 u u0 (by omega)) h2
      refine ⟨r, σ', ?_, z_out_tr c3 t2, t3⟩
      show f_X5_bestWindow_b7 _ σ b x w = _
      unfold f_X5_bestWindow_b7 f_X5_bestWindow_b54
      rw [if_pos (by unfold zr; omega), if_neg (by omega), if_pos (by omega), s0, c1, z_bd, hrc, z_bd, if_pos (by unfold zr; omega), if_pos (by omega)]
      exact t1
theorem s_best {A : zA} {σ : zS} (hA : a_ok A) (hC : a_C σ A) : ∃ w : Int, s_to (f_X5_bestWindow σ) w A ∧ (0 ≤ w ∧ w ≤ 20) ∧ (∀ u, 0 ≤ u → u ≤ 20 → q_ro (a_V A) (v_S (a_V A) 0) w ≤ q_ro (a_V A) (v_S (a_V A) 0) u) ∧ ∀ u, 0 ≤ u → u < w → q_ro (a_V A) (v_S (a_V A) 0) w < q_ro (a_V A) (v_S (a_V A) 0) u := by
  obtain ⟨r, σ', t1, t2, t3⟩ := s_best_l hA.2.1 21 z_fuel 0 0 21 σ (by unfold z_fuel; omega) (by omega) (by omega) hC.2.1 (by omega) (Or.inl ⟨rfl, rfl⟩) (fun u u0 u1 => by omega) (fun u u0 u1 => by omega)
  exact ⟨r, ⟨σ', t1, a_C48 hA hC t2⟩, t3⟩
theorem q_gd_ok (V : zV) (w x : Int) : ∀ n : Nat, q_gd V w x n = -9 ∨ ((0 ≤ q_gd V w x n ∧ q_gd V w x n < n) ∧ q_fr V (q_gd V w x n) w ≤ x) := by
  intro n
  induction n with
  | zero => exact Or.inl rfl
  | succ n ih =>
    unfold q_gd
    split
    · rename_i h; exact Or.inr ⟨by omega, h⟩
    · omega
theorem s_doubt {A : zA} {σ : zS} {x : Int} (hA : a_ok A) (hC : a_C σ A) (hx : 0 ≤ x ∧ x < 2147483648) : s_to (f_X5_greatestDoubt σ x) (q_gd (a_V A) (v_S (a_V A) 2) x 101) A := by
  obtain ⟨σ', c1, c2⟩ := c_gd_l (x := x) hA.2.1 (by omega) 101 z_fuel σ (by unfold z_fuel; omega) (by omega) hC.2.1 (fun h => by omega)
  refine ⟨σ', ?_, a_C48 hA hC c2⟩
  unfold f_X5_greatestDoubt
  rw [if_pos (by unfold zr; omega), if_pos hx.1]
  exact c1
theorem s_doubtBad {σ : zS} {x : Int} (hx : zr x) (a : ¬ 0 ≤ x) : f_X5_greatestDoubt σ x = some (-1, σ) := by
  unfold f_X5_greatestDoubt
  rw [if_pos hx, if_neg a]
theorem s_length {A : zA} {σ : zS} (hA : a_ok A) (hC : a_C σ A) : s_to (f_X5_length σ) (q_P (a_V A)).1 A := by
  obtain ⟨σ', s1, s2, s3, s4⟩ := c_res hC.2.1 hA.2.1
  refine ⟨σ', ?_, a_C58 hA hC s4⟩
  unfold f_X5_length
  rw [s1, z_bd, s2.1]
theorem s_heard {A : zA} {σ : zS} {x c : Int} (hA : a_ok A) (hC : a_C σ A) (a : 0 ≤ x ∧ x < (q_P (a_V A)).1) (b : c = 0 ∨ c = 1) : s_to (f_X5_heard σ x c) (if c = 0 then (q_P (a_V A)).2.1 x else (q_P (a_V A)).2.2 x) A := by
  have hV := hA.2.1
  have hF := hV.1
  have hr : q_pok (a_V A) (q_P (a_V A)) (v_F (a_V A)) := q_Pok hV
  have hn := hr.1
  have hx : zr x := by unfold zr; omega
  have hc : zr c := by unfold zr; omega
  obtain ⟨σ', s1, s2, s3, s4⟩ := c_res hC.2.1 hV
  have h54 := s2.1
  have hs := s2.2 x a.1 a.2
  refine ⟨σ', ?_, a_C58 hA hC s4⟩
  unfold f_X5_heard f_X5_heard_b47
  rw [s1, z_bd, if_pos hx, if_neg (by omega), h54, if_pos (by unfold zr; omega), if_neg (by omega), if_pos hc, if_neg (by omega), if_pos hc, if_pos (by omega), if_pos hc]
  by_cases d : c = 0
  · rw [if_neg (by omega), if_pos (by omega), if_pos d, hs.1]
  · rw [if_pos d, if_pos (by omega), if_neg d, hs.2]
theorem s_heardBad {A : zA} {σ : zS} {x c : Int} (hA : a_ok A) (hC : a_C σ A) (hx : zr x) (hc : zr c) (a : ¬ ((0 ≤ x ∧ x < (q_P (a_V A)).1) ∧ 0 ≤ c ∧ c ≤ 1)) : s_to (f_X5_heard σ x c) (-1) A := by
  have hV := hA.2.1
  have hF := hV.1
  have hr : q_pok (a_V A) (q_P (a_V A)) (v_F (a_V A)) := q_Pok hV
  have hn := hr.1
  obtain ⟨σ', s1, s2, s3, s4⟩ := c_res hC.2.1 hV
  have h54 := s2.1
  refine ⟨σ', ?_, a_C58 hA hC s4⟩
  unfold f_X5_heard f_X5_heard_b26
  rw [s1, z_bd, if_pos hx]
  by_cases d : x < 0
  · rw [if_pos d]
  · rw [if_neg d, h54, if_pos (by unfold zr; omega)]
    by_cases e : (q_P (a_V A)).1 ≤ x
    · rw [if_pos e]
    · rw [if_neg e, if_pos hc]
      by_cases f : c < 0
      · rw [if_pos f]
      · rw [if_neg f, if_pos hc, if_neg (by omega)]
theorem s_where {A : zA} {σ : zS} {x : Int} (hA : a_ok A) (hC : a_C σ A) (a : 0 ≤ x ∧ x < v_F (a_V A)) : s_to (f_X5_where σ x) (q_wh (q_P (a_V A)) x (q_P (a_V A)).1.toNat 0) A := by
  have hV := hA.2.1
  have hF := hV.1
  have hr : q_pok (a_V A) (q_P (a_V A)) (v_F (a_V A)) := q_Pok hV
  have hn := hr.1
  have hx : zr x := by unfold zr; omega
  have h := c_hasFrame hC.2.1 hV hx
  rw [if_pos a] at h
  obtain ⟨σ', s1, s2, s3, s4⟩ := c_res hC.2.1 hV
  have hp : f_X3_placeOfSource σ' x = some (q_wh (q_P (a_V A)) x (q_P (a_V A)).1.toNat 0, σ') := c_place_l s2 hr hF.2 hx _ _ _ (by unfold z_fuel; omega) (by omega) (by omega)
  refine ⟨σ', ?_, a_C58 hA hC s4⟩
  unfold f_X5_where
  rw [h, z_bd, if_pos (by decide), if_pos (by omega), s1, z_bd, hp, z_bd]
theorem s_whereBad {A : zA} {σ : zS} {x : Int} (hA : a_ok A) (hC : a_C σ A) (hx : zr x) (a : ¬ (0 ≤ x ∧ x < v_F (a_V A))) : f_X5_where σ x = some (-1, σ) := by
  have h := c_hasFrame hC.2.1 hA.2.1 hx
  rw [if_neg a] at h
  unfold f_X5_where
  rw [h, z_bd, if_pos (by decide), if_neg (by omega)]
-- clicks: at most as many as there are steps; none of more than 9
theorem s_clicks_l {σ : zS} {V : zV} {r : zP} {b x : Int} (hs : r_P σ r) (hr : q_pok V r b) (hb : b ≤ 200) (hx : 0 ≤ x ∧ x ≤ 9) : ∀ (n f : Nat) (y i : Int), n < f → 1 ≤ i → (i + n = r.1 ∨ (n = 0 ∧ r.1 ≤ i ∧ i ≤ 201)) → ∃ z, f_X3_stepsGreaterThan_l4 f σ x y i = some (z, σ) ∧ (y ≤ z ∧ z ≤ y + n) ∧ (x = 9 → z = y) := by
  intro n
  have h54 := hs.1
  have hn := hr.1
  induction n with
  | zero =>
    intro f y i hf i1 hi
    obtain ⟨f, rfl⟩ : ∃ k, f = k + 1 := ⟨f - 1, by omega⟩
    refine ⟨y, ?_, by omega, fun _ => rfl⟩
    show f_X3_stepsGreaterThan_b4 _ σ x y i = _
    unfold f_X3_stepsGreaterThan_b4
    rw [h54, if_pos (by unfold zr; omega), if_pos (by omega)]
  | succ n ih =>
    intro f y i hf i1 hi
    obtain ⟨f, rfl⟩ : ∃ k, f = k + 1 := ⟨f - 1, by omega⟩
    have a1 := (hs.2 i (by omega) (by omega)).2
    have a2 := (hs.2 (i - 1) (by omega) (by omega)).2
    have k1 := (hr.2.1 i (by omega) (by omega)).1
    have k2 := (hr.2.1 (i - 1) (by omega) (by omega)).1
    obtain ⟨D, hD⟩ : ∃ D, D = r.2.2 i - r.2.2 (i - 1) := ⟨_, rfl⟩
    obtain ⟨E, hE⟩ : ∃ E, E = (if 0 ≤ D then D else 0 - D) := ⟨_, rfl⟩
    have hE2 : (0 ≤ D ∧ E = D) ∨ (D < 0 ∧ E = 0 - D) := by
      by_cases c : 0 ≤ D
      · rw [if_pos c] at hE; exact Or.inl ⟨c, hE⟩
      · rw [if_neg c] at hE; exact Or.inr ⟨by omega, hE⟩
    by_cases e : E ≤ x
    · obtain ⟨z, z1, z2, z3⟩ := ih f y (i + 1) (by omega) (by omega) (by omega)
      refine ⟨z, ?_, by omega, z3⟩
      show f_X3_stepsGreaterThan_b4 _ σ x y i = _
      unfold f_X3_stepsGreaterThan_b4 f_X3_stepsGreaterThan_b37
      rw [h54, if_pos (by unfold zr; omega), if_neg (by omega), if_pos (by omega), if_pos (by omega), a1, a2, ← hD, ← hE, if_pos (by unfold zr; omega), if_pos (by unfold zr; omega), if_pos e]
      exact z1
    · obtain ⟨z, z1, z2, z3⟩ := ih f (y + 1) (i + 1) (by omega) (by omega) (by omega)
      refine ⟨z, ?_, by omega, fun h9 => by omega⟩
      show f_X3_stepsGreaterThan_b4 _ σ x y i = _
      unfold f_X3_stepsGreaterThan_b4 f_X3_stepsGreaterThan_b37
      rw [h54, if_pos (by unfold zr; omega), if_neg (by omega), if_pos (by omega), if_pos (by omega), a1, a2, ← hD, ← hE, if_pos (by unfold zr; omega), if_pos (by unfold zr; omega), if_neg e]
      exact z1
theorem s_clicks {A : zA} {σ : zS} {x : Int} (hA : a_ok A) (hC : a_C σ A) (a : 0 ≤ x ∧ x ≤ 9) : ∃ z : Int, s_to (f_X5_clicks σ x) z A ∧ (0 ≤ z ∧ z ≤ 200) ∧ ((q_P (a_V A)).1 = 0 → z = 0) ∧ (0 < (q_P (a_V A)).1 → z < (q_P (a_V A)).1) ∧ (x = 9 → z = 0) := by
  have hV := hA.2.1
  have hF := hV.1
  have hr : q_pok (a_V A) (q_P (a_V A)) (v_F (a_V A)) := q_Pok hV
  have hn := hr.1
  obtain ⟨σ', s1, s2, s3, s4⟩ := c_res hC.2.1 hV
  obtain ⟨z, z1, z2, z3⟩ := s_clicks_l s2 hr hF.2 a ((q_P (a_V A)).1 - 1).toNat z_fuel 0 1 (by unfold z_fuel; omega) (by omega) (by omega)
  have z1 : f_X3_stepsGreaterThan σ' x = some (z, σ') := z1
  refine ⟨z, ⟨σ', ?_, a_C58 hA hC s4⟩, by omega, fun h => by omega, fun h => by omega, z3⟩
  unfold f_X5_clicks
  rw [if_pos (by unfold zr; omega), if_neg (by omega), if_pos (by unfold zr; omega), if_pos (by omega), s1, z_bd, z1, z_bd]
theorem s_clicksBad {σ : zS} {x : Int} (hx : zr x) (a : ¬ (0 ≤ x ∧ x ≤ 9)) : f_X5_clicks σ x = some (-1, σ) := by
  unfold f_X5_clicks f_X5_clicks_b10
  rw [if_pos hx]
  by_cases d : x < 0
  · rw [if_pos d]
  · rw [if_neg d, if_pos hx, if_neg (by omega)]
-- silence: no longer than the result
theorem s_silence_l {σ : zS} {V : zV} {r : zP} {b x : Int} (hs : r_P σ r) (hr : q_pok V r b) (hb : b ≤ 200) (hx : 0 ≤ x ∧ x ≤ 9) : ∀ (n f : Nat) (y u i : Int), n < f → 0 ≤ i → i + n = r.1 → (0 ≤ y ∧ y ≤ i) → (0 ≤ u ∧ u ≤ i) → ∃ z, f_X3_longestStretchUpTo_l7 f σ x y u i = some (z, σ) ∧ 0 ≤ z ∧ z ≤ r.1 := by
  intro n
  have h54 := hs.1
  have hn := hr.1
  induction n with
  | zero =>
    intro f y u i hf i1 hi hy hu
    obtain ⟨f, rfl⟩ : ∃ k, f = k + 1 := ⟨f - 1, by omega⟩
    refine ⟨y, ?_, by omega, by omega⟩
    show f_X3_longestStretchUpTo_b7 _ σ x y u i = _
    unfold f_X3_longestStretchUpTo_b7
    rw [h54, if_pos (by unfold zr; omega), if_pos (by omega)]
  | succ n ih =>
    intro f y u i hf i1 hi hy hu
    obtain ⟨f, rfl⟩ : ∃ k, f = k + 1 := ⟨f - 1, by omega⟩
    have a1 := (hs.2 i (by omega) (by omega)).2
    have k1 := (hr.2.1 i (by omega) (by omega)).1
    have hB : ∀ v : Int, (0 ≤ v ∧ v ≤ i + 1) → ∃ z, f_X3_longestStretchUpTo_b34 (f_X3_longestStretchUpTo_l7 f) σ x y i v = some (z, σ) ∧ 0 ≤ z ∧ z ≤ r.1 := by
      intro v hv
      obtain ⟨z, z1, z2⟩ := ih f (if y < v then v else y) v (i + 1) (by omega) (by omega) (by omega) (by split <;> omega) hv
      refine ⟨z, ?_, z2⟩
      unfold f_X3_longestStretchUpTo_b34
      rw [if_pos (by unfold zr; omega)]
      exact z1
    by_cases e : x < r.2.2 i
    · obtain ⟨z, z1, z2⟩ := hB 0 (by omega)
      refine ⟨z, ?_, z2⟩
      show f_X3_longestStretchUpTo_b7 _ σ x y u i = _
      unfold f_X3_longestStretchUpTo_b7
      rw [h54, if_pos (by unfold zr; omega), if_neg (by omega), if_pos (by omega), a1, if_pos (by unfold zr; omega), if_pos e]
      exact z1
    · obtain ⟨z, z1, z2⟩ := hB (u + 1) (by omega)
      refine ⟨z, ?_, z2⟩
      show f_X3_longestStretchUpTo_b7 _ σ x y u i = _
      unfold f_X3_longestStretchUpTo_b7
      rw [h54, if_pos (by unfold zr; omega), if_neg (by omega), if_pos (by omega), a1, if_pos (by unfold zr; omega), if_neg e]
      exact z1
theorem s_silence {A : zA} {σ : zS} (hA : a_ok A) (hC : a_C σ A) : ∃ z : Int, s_to (f_X5_silence σ) z A ∧ 0 ≤ z ∧ z ≤ (q_P (a_V A)).1 := by
  have hV := hA.2.1
  have hF := hV.1
  have hr : q_pok (a_V A) (q_P (a_V A)) (v_F (a_V A)) := q_Pok hV
  have hn := hr.1
  obtain ⟨σ', s1, s2, s3, s4⟩ := c_res hC.2.1 hV
  have hC' := a_C58 hA hC s4
  have c1 := (v_C0 hC'.2.1).2.2.2.2 1 (by omega) (by omega)
  have k1 := hV.2.2.2.2.2.2.1
  obtain ⟨z, z1, z2⟩ := s_silence_l s2 hr hF.2 k1 (q_P (a_V A)).1.toNat z_fuel 0 0 0 (by unfold z_fuel; omega) (by omega) (by omega) (by omega) (by omega)
  have z1 : f_X3_longestStretchUpTo σ' (v_S (a_V A) 1) = some (z, σ') := z1
  refine ⟨z, ⟨σ', ?_, hC'⟩, z2⟩
  unfold f_X5_silence
  rw [s1, z_bd, if_pos (by omega), c1, z1, z_bd]
-- loudness, share: their two numbers
theorem s_sumL {σ : zS} {r : zP} (hs : r_P σ r) (hr : 0 ≤ r.1 ∧ r.1 ≤ 200) : ∀ (n i f : Nat) (y : Int), n < f → (i : Int) + n = r.1 → y = q_sum r.2.2 i → f_X3_sumOfLevels_l4 f σ y i = some (q_sum r.2.2 (i + n), σ) := by
  intro n
  induction n with
  | zero =>
    intro i f y hf hi hy
    obtain ⟨f, rfl⟩ : ∃ k, f = k + 1 := ⟨f - 1, by omega⟩
    show f_X3_sumOfLevels_b4 _ σ y i = _
    unfold f_X3_sumOfLevels_b4
    rw [hs.1, if_pos (by unfold zr; omega), if_pos (by omega), hy]
    rfl
  | succ n ih =>
    intro i f y hf hi hy
    obtain ⟨f, rfl⟩ : ∃ k, f = k + 1 := ⟨f - 1, by omega⟩
    show f_X3_sumOfLevels_b4 _ σ y i = _
    unfold f_X3_sumOfLevels_b4
    rw [hs.1, if_pos (by unfold zr; omega), if_neg (by omega), if_pos (by omega), (hs.2 i (by omega) (by omega)).2, show (i : Int) + 1 = ((i + 1 : Nat) : Int) by omega, ih (i + 1) f _ (by omega) (by omega) (by rw [hy]; rfl), show i + 1 + n = i + (n + 1) by omega]
theorem s_loud {A : zA} {σ : zS} (hA : a_ok A) (hC : a_C σ A) : ∃ σ', f_X5_loudness σ = some (if (q_P (a_V A)).1 = 0 then (0, 0) else (q_sum (q_P (a_V A)).2.2 (q_P (a_V A)).1.toNat, (q_P (a_V A)).1), σ') ∧ a_C σ' A := by
  have hV := hA.2.1
  have hF := hV.1
  have hr : q_pok (a_V A) (q_P (a_V A)) (v_F (a_V A)) := q_Pok hV
  have hn := hr.1
  obtain ⟨σ', s1, s2, s3, s4⟩ := c_res hC.2.1 hV
  refine ⟨σ', ?_, a_C58 hA hC s4⟩
  by_cases e : (q_P (a_V A)).1 = 0
  · rw [if_pos e]
    unfold f_X5_loudness
    rw [s1, z_bd, s2.1, if_pos (by unfold zr; omega), if_neg (by omega)]
  · rw [if_neg e]
    have h1 := s_sumL s2 (by omega) (q_P (a_V A)).1.toNat 0 z_fuel 0 (by unfold z_fuel; omega) (by omega) rfl
    rw [Nat.zero_add] at h1
    have h1 : f_X3_sumOfLevels σ' = some (q_sum (q_P (a_V A)).2.2 (q_P (a_V A)).1.toNat, σ') := h1
    unfold f_X5_loudness
    rw [s1, z_bd, s2.1, if_pos (by unfold zr; omega), if_pos e, h1, z_bd, s2.1, if_pos e]
theorem s_share {A : zA} {σ : zS} (hA : a_ok A) (hC : a_C σ A) : ∃ σ', f_X5_share σ = some (if v_F (a_V A) = 0 then (0, 0) else (v_F (a_V A) - q_sum (q_w (q_C (a_V A)) 0) (q_C (a_V A)).1.toNat, v_F (a_V A)), σ') ∧ a_C σ' A := by
  have hV := hA.2.1
  have hF := hV.1
  have hMk := hV.2.1
  have hk : q_cok (a_V A) (q_C (a_V A)) (v_M (a_V A)) := q_kok hV _ _
  have hkn := hk.1
  have h1 := (v_C0 hC.2.1).1
  by_cases e : v_F (a_V A) = 0
  · refine ⟨σ, ?_, hC⟩
    rw [if_pos e]
    unfold f_X5_share
    rw [h1, if_pos (by unfold zr; omega), if_neg (by omega)]
  · obtain ⟨σ', s1, s2, s3⟩ := c_cur hC.2.1 hV
    refine ⟨σ', ?_, a_C48 hA hC s3⟩
    rw [if_neg e]
    unfold f_X5_share
    rw [h1, if_pos (by unfold zr; omega), if_pos e, s1, z_bd, c_cutFrames s2 (by omega), z_bd, s3 0 (by omega), h1, if_pos e]
    rfl
/-- the fingerprint of a recording -/
def q_pr (V : zV) : Int := q_rr (q_P V) (q_P V).1.toNat 0 (31 * q_cc (q_C V) (q_C V).1.toNat 0 (31 * q_m V (q_C V) (v_M V).toNat 0 (q_t (v_L V) (v_F V).toNat 0 (q_t (q_sv V) 9 0 151)) + (q_C V).1) + (q_P V).1)
theorem s_print {A : zA} {σ : zS} (hA : a_ok A) (hC : a_C σ A) : s_to (f_X5_fingerprint σ) (q_pr (a_V A)) A := by
  have hV := hA.2.1
  have hF := hV.1
  have hMk := hV.2.1
  have hr : q_pok (a_V A) (q_P (a_V A)) (v_F (a_V A)) := q_Pok hV
  have hn := hr.1
  have hk : q_cok (a_V A) (q_C (a_V A)) (v_M (a_V A)) := q_kok hV _ _
  have hkn := hk.1
  obtain ⟨σ1, s1, s2, s3⟩ := c_cur hC.2.1 hV
  have hC1 := a_C48 hA hC s3
  obtain ⟨σ2, u1, u2, u3, u4⟩ := c_res hC1.2.1 hV
  have hC2 := a_C58 hA hC1 u4
  have e6 : f_X5_fingerprint σ = _ := c_print6 hV hC.2.1 9 z_fuel 0 151 (by unfold z_fuel; omega) (by omega) (by omega)
  have e33 := c_print33 hV hC.2.1 (v_F (a_V A)).toNat z_fuel 0 (q_t (q_sv (a_V A)) 9 0 151) (by unfold z_fuel; omega) (by omega) (by omega)
  refine ⟨σ2, ?_, hC2⟩
  unfold q_pr
  generalize q_t (v_L (a_V A)) (v_F (a_V A)).toNat 0 (q_t (q_sv (a_V A)) 9 0 151) = y1 at e33 ⊢
  have eM : f_X5_withMarks σ1 y1 = _ := c_printM hV hC1.2.1 s2 hk (v_M (a_V A)).toNat z_fuel 0 y1 (by unfold z_fuel; omega) (by omega) (by omega)
  generalize q_m (a_V A) (q_C (a_V A)) (v_M (a_V A)).toNat 0 y1 = y2 at eM ⊢
  have eC : f_X5_withCuts σ1 y2 = some (q_cc (q_C (a_V A)) (q_C (a_V A)).1.toNat 0 (31 * y2 + (q_C (a_V A)).1), σ1) := by
    unfold f_X5_withCuts
    rw [s2.1, if_pos (by unfold zr; omega)]
    exact c_printC hV s2 hk _ _ 0 _ (by unfold z_fuel; omega) (by omega) (by omega)
  generalize q_cc (q_C (a_V A)) (q_C (a_V A)).1.toNat 0 (31 * y2 + (q_C (a_V A)).1) = y3 at eC ⊢
  have eR : f_X5_withResult σ2 y3 = some (q_rr (q_P (a_V A)) (q_P (a_V A)).1.toNat 0 (31 * y3 + (q_P (a_V A)).1), σ2) := by
    unfold f_X5_withResult
    rw [u2.1, if_pos (by unfold zr; omega)]
    exact c_printR u2 hr hF.2 _ _ 0 _ (by unfold z_fuel; omega) (by omega) (by omega)
  rw [e6, e33, s1, z_bd, eM, z_bd, eC, z_bd, u1, z_bd, eR, z_bd]
