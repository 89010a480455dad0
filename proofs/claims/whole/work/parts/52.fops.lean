/-! SET, LOUDNESS, SHARE -/
def v_set (V : zV) (x y : Int) : zV := (v_F V, v_M V, v_L V, v_K V, fun i => if i = x then y else v_S V i)
theorem v_set_ok {V : zV} {x y : Int} (h : v_ok V) (hx : 0 ≤ x ∧ x ≤ 6) (hy : 0 ≤ y ∧ y ≤ z_most x) : v_ok (v_set V x y) := by
  obtain ⟨h1, h2, h3, h4, h5, h6⟩ := h
  refine ⟨h1, h2, h3, h4, h5, ?_⟩
  unfold z_most at hy
  obtain ⟨k0, k1, k2, k3, k4, k5, k6⟩ := h6
  show (0 ≤ (if (0 : Int) = x then y else v_S V 0) ∧ (if (0 : Int) = x then y else v_S V 0) ≤ 100) ∧ (0 ≤ (if (1 : Int) = x then y else v_S V 1) ∧ (if (1 : Int) = x then y else v_S V 1) ≤ 9) ∧ (0 ≤ (if (2 : Int) = x then y else v_S V 2) ∧ (if (2 : Int) = x then y else v_S V 2) ≤ 20) ∧ (0 ≤ (if (3 : Int) = x then y else v_S V 3) ∧ (if (3 : Int) = x then y else v_S V 3) ≤ 50) ∧ (0 ≤ (if (4 : Int) = x then y else v_S V 4) ∧ (if (4 : Int) = x then y else v_S V 4) ≤ 100) ∧ (0 ≤ (if (5 : Int) = x then y else v_S V 5) ∧ (if (5 : Int) = x then y else v_S V 5) ≤ 50) ∧ (0 ≤ (if (6 : Int) = x then y else v_S V 6) ∧ (if (6 : Int) = x then y else v_S V 6) ≤ 50)
  rcases (show x = 0 ∨ x = 1 ∨ x = 2 ∨ x = 3 ∨ x = 4 ∨ x = 5 ∨ x = 6 by omega) with rfl | rfl | rfl | rfl | rfl | rfl | rfl
  · rw [if_pos rfl] at hy
    rw [if_pos rfl, if_neg (by omega), if_neg (by omega), if_neg (by omega), if_neg (by omega), if_neg (by omega), if_neg (by omega)]; exact ⟨hy, k1, k2, k3, k4, k5, k6⟩
  · rw [if_neg (by omega), if_pos rfl] at hy
    rw [if_neg (by omega), if_pos rfl, if_neg (by omega), if_neg (by omega), if_neg (by omega), if_neg (by omega), if_neg (by omega)]; exact ⟨k0, hy, k2, k3, k4, k5, k6⟩
  · rw [if_neg (by omega), if_neg (by omega), if_pos rfl] at hy
    rw [if_neg (by omega), if_neg (by omega), if_pos rfl, if_neg (by omega), if_neg (by omega), if_neg (by omega), if_neg (by omega)]; exact ⟨k0, k1, hy, k3, k4, k5, k6⟩
  · rw [if_neg (by omega), if_neg (by omega), if_neg (by omega), if_pos rfl] at hy
    rw [if_neg (by omega), if_neg (by omega), if_neg (by omega), if_pos rfl, if_neg (by omega), if_neg (by omega), if_neg (by omega)]; exact ⟨k0, k1, k2, hy, k4, k5, k6⟩
  · rw [if_neg (by omega), if_neg (by omega), if_neg (by omega), if_neg (by omega), if_pos rfl] at hy
    rw [if_neg (by omega), if_neg (by omega), if_neg (by omega), if_neg (by omega), if_pos rfl, if_neg (by omega), if_neg (by omega)]; exact ⟨k0, k1, k2, k3, hy, k5, k6⟩
  · rw [if_neg (by omega), if_neg (by omega), if_neg (by omega), if_neg (by omega), if_neg (by omega)] at hy
    rw [if_neg (by omega), if_neg (by omega), if_neg (by omega), if_neg (by omega), if_neg (by omega), if_pos rfl, if_neg (by omega)]; exact ⟨k0, k1, k2, k3, k4, hy, k6⟩
  · rw [if_neg (by omega), if_neg (by omega), if_neg (by omega), if_neg (by omega), if_neg (by omega)] at hy
    rw [if_neg (by omega), if_neg (by omega), if_neg (by omega), if_neg (by omega), if_neg (by omega), if_neg (by omega), if_pos rfl]; exact ⟨k0, k1, k2, k3, k4, k5, hy⟩
theorem m_most {σ : zS} {x : Int} (hx : 0 ≤ x ∧ x ≤ 6) : f_X6_most σ x = some (z_most x, σ) := by
  have hz : zr x := by unfold zr; omega
  unfold f_X6_most f_X6_most_b9 f_X6_most_b36 z_most
  rw [if_pos hz, if_pos hz, if_pos hz, if_pos hz]
  by_cases a : x = 0
  · rw [if_pos a, if_pos a]
  · rw [if_neg a, if_neg a]
    by_cases b : x = 4
    · rw [if_neg (by omega), if_neg (by omega), if_neg (by omega), if_neg (by omega), if_pos b]
    · rw [if_pos b]
      by_cases c : x = 1
      · rw [if_neg (by omega), if_pos c]
      · rw [if_pos c, if_neg c]
        by_cases d : x = 2
        · rw [if_neg (by omega), if_pos d]
        · rw [if_pos d, if_neg d, if_neg b]
          by_cases e : x = 3
          · rw [if_pos e]
          · rw [if_neg e]
theorem z_most_le (x : Int) : 0 ≤ z_most x ∧ z_most x ≤ 100 := by
  unfold z_most
  split
  · omega
  · split
    · omega
    · split
      · omega
      · split
        · omega
        · split <;> omega
theorem o_set {A : zA} {σ τ : zS} {x y : Int} (hA : a_ok A) (hC : a_C σ A) (hM : a_M τ A) (hx : zr x) (hy : zr y) : o_eq (f_X5_set σ x y) (f_X6_set τ x y) := by
  obtain ⟨σ', τ', s1, t1, hh, hC', hM', s3, t3⟩ := o_act hA hC hM
  have hV := hA.2.1
  have hg := z_most_le x
  have hz : zr (z_most x) := by unfold zr; omega
  have hi := m_in (σ := τ) hx (show zr 0 by decide) (show zr 6 by decide)
  have hj := m_in (σ := τ) hy (show zr 0 by decide) hz
  by_cases a : 0 ≤ x ∧ x ≤ 6
  · rw [if_pos a] at hi
    by_cases b : 0 ≤ y ∧ y ≤ z_most x
    · rw [if_pos b] at hj
      have x1 : z_ex (fun a _ => a = 1) τ' (z_up τ' 1 x y) := z_ex_up z_ex_rf rfl
      have hS := (v_C0 hC'.2.1).2.2.2.2 x a.1 (by omega)
      have hR := hM'.2.1.2.2.2.2 x a.1 (by omega)
      refine ⟨v_S (a_V A) x, z_up σ' 7 x y, z_up τ' 1 x y, (a_n A, a_t A, v_set (a_V A) x y, (a_keep (a_h A) (a_s A) (a_V A)).1, (a_keep (a_h A) (a_s A) (a_V A)).2), ?_, ?_, ⟨hA.1, v_set_ok hV a b, hh⟩, ⟨c_T_of hC'.1 (by funext b; rw [z_rn (by omega)]) (by funext b; rw [z_rn (by omega)]), ?_, c_H_of hC'.2.2 hh.1.2 (fun a ha => by funext b; rw [z_rn (by omega)])⟩, ⟨m_T_of hM'.1 x1 (by omega) (by omega), ?_, m_H_of hM'.2.2 x1 (by omega) (by omega)⟩⟩
      · unfold f_X5_set
        have hS : σ' 7 x = v_S (a_V A) x := hS
        rw [if_pos hx, if_neg (by omega), if_pos hx, if_pos (by omega), if_pos hy, if_neg (by omega), if_pos (by omega), if_pos ⟨hy, hz⟩, if_pos b.2, s1, z_bd, if_pos (by omega), if_pos (by omega), z_put, hS]
      · unfold f_X6_set f_X6_set_b32 f_X6_sets
        have hR : τ' 1 x = v_S (a_V A) x := hR
        rw [hi, z_bd, if_pos (by decide), if_neg (by omega), m_most a, z_bd, hj, z_bd, if_pos (by decide), if_neg (by omega), t1, z_bd, if_pos (by omega), if_pos (by omega), z_put, z_bd, hR]
      · obtain ⟨f1, f2, f3, f4, f5⟩ := v_C0 hC'.2.1
        refine ⟨by rw [z_rn (by omega)]; exact f1, by rw [z_rn (by omega)]; exact f2, fun i i0 i1 => by rw [z_rn (by omega)]; exact f3 i i0 i1, fun i i0 i1 => ?_, fun i i0 i1 => ?_⟩
        · rw [z_rn (by omega), z_rn (by omega), z_rn (by omega), z_rn (by omega), z_rn (by omega)]; exact f4 i i0 i1
        · show z_up σ' 7 x y 7 i = if i = x then y else v_S (a_V A) i
          by_cases e : i = x
          · rw [if_pos e, e, z_re]
          · rw [if_neg e, z_ri e]; exact f5 i i0 i1
      · obtain ⟨f1, f2, f3, f4, f5⟩ := hM'.2.1
        have hF := hV.1
        have hMk := hV.2.1
        refine ⟨by rw [z_ri (by omega)]; exact f1, by rw [z_ri (by omega)]; exact f2, fun i i0 i1 => by rw [z_ri (by omega)]; exact f3 i i0 i1, fun i i0 i1 => ?_, fun i i0 i1 => ?_⟩
        · rw [z_ri (by omega), z_ri (by omega), z_ri (by omega), z_ri (by omega), z_ri (by omega)]; exact f4 i i0 i1
        · show z_up τ' 1 x y 1 i = if i = x then y else v_S (a_V A) i
          by_cases e : i = x
          · rw [if_pos e, e, z_re]
          · rw [if_neg e, z_ri e]; exact f5 i i0 i1
    · rw [if_neg b] at hj
      refine ⟨-1, σ, τ, A, ?_, ?_, hA, hC, hM⟩
      · unfold f_X5_set f_X5_set_b25
        by_cases c : y < 0
        · rw [if_pos hx, if_neg (by omega), if_pos hx, if_pos (by omega), if_pos hy, if_pos c]
        · rw [if_pos hx, if_neg (by omega), if_pos hx, if_pos (by omega), if_pos hy, if_neg c, if_pos (by omega), if_pos ⟨hy, hz⟩, if_neg (by omega)]
      · unfold f_X6_set f_X6_set_b31 f_X6_set_b32
        rw [hi, z_bd, if_pos (by decide), if_neg (by omega), m_most a, z_bd, hj, z_bd, if_pos (by decide), if_pos rfl]
  · rw [if_neg a] at hi
    refine ⟨-1, σ, τ, A, ?_, ?_, hA, hC, hM⟩
    · unfold f_X5_set f_X5_set_b10
      by_cases c : x < 0
      · rw [if_pos hx, if_pos c]
      · rw [if_pos hx, if_neg c, if_pos hx, if_neg (by omega)]
    · unfold f_X6_set f_X6_set_b31 f_X6_set_b32
      rw [hi, z_bd, if_pos (by decide), if_pos rfl]
/-- alike, of what answers a float -/
def o_eqF (fC fM : Option ((Int × Int) × zS)) : Prop := ∃ (r : Int × Int) (σ' τ' : zS) (A' : zA), fC = some (r, σ') ∧ fM = some (r, τ') ∧ a_ok A' ∧ a_C σ' A' ∧ a_M τ' A'
theorem c_sumL {σ : zS} {r : zP} (hs : r_P σ r) (hr : 0 ≤ r.1 ∧ r.1 ≤ 200) : ∀ (n f : Nat) (y i : Int), n < f → 0 ≤ i → i + n = r.1 → ∃ z, f_X3_sumOfLevels_l4 f σ y i = some (z, σ) ∧ ∀ (τ : zS) (g : Nat), r_N τ r → n < g → r.1 ≠ 0 → f_X6_loudness_l8 g τ y i = some ((z, r.1), τ) := by
  intro n
  induction n with
  | zero =>
    intro f y i hf i0 hi
    obtain ⟨f, rfl⟩ : ∃ k, f = k + 1 := ⟨f - 1, by omega⟩
    refine ⟨y, ?_, fun τ g ht hg h0 => ?_⟩
    · show f_X3_sumOfLevels_b4 _ σ y i = _
      unfold f_X3_sumOfLevels_b4
      rw [hs.1, if_pos (by unfold zr; omega), if_pos (by omega)]
    · obtain ⟨g, rfl⟩ : ∃ k, g = k + 1 := ⟨g - 1, by omega⟩
      show f_X6_loudness_b8 _ τ y i = _
      unfold f_X6_loudness_b8
      rw [ht.1, if_pos (by unfold zr; omega), if_pos (by omega), if_pos (by unfold zr; omega), if_pos h0, if_pos h0]
  | succ n ih =>
    intro f y i hf i0 hi
    obtain ⟨f, rfl⟩ : ∃ k, f = k + 1 := ⟨f - 1, by omega⟩
    obtain ⟨z, z1, z2⟩ := ih f (y + r.2.2 i) (i + 1) (by omega) (by omega) (by omega)
    refine ⟨z, ?_, fun τ g ht hg h0 => ?_⟩
    · show f_X3_sumOfLevels_b4 _ σ y i = _
      unfold f_X3_sumOfLevels_b4
      rw [hs.1, if_pos (by unfold zr; omega), if_neg (by omega), if_pos (by omega), (hs.2 i i0 (by omega)).2]
      exact z1
    · obtain ⟨g, rfl⟩ : ∃ k, g = k + 1 := ⟨g - 1, by omega⟩
      show f_X6_loudness_b8 _ τ y i = _
      unfold f_X6_loudness_b8
      rw [ht.1, if_pos (by unfold zr; omega), if_neg (by omega), if_pos (by omega), (ht.2 i i0 (by omega)).2]
      exact z2 τ g ht (by omega) h0
theorem o_loudness {A : zA} {σ τ : zS} (hA : a_ok A) (hC : a_C σ A) (hM : a_M τ A) : o_eqF (f_X5_loudness σ) (f_X6_loudness τ) := by
  have hV := hA.2.1
  have hF := hV.1
  have hr : q_pok (a_V A) (q_P (a_V A)) (v_F (a_V A)) := q_Pok hV
  have hn := hr.1
  obtain ⟨σ', s1, s2, s3, s4⟩ := c_res hC.2.1 hV
  obtain ⟨τ', t1, t2, t3, t4⟩ := m_res hM.2.1 hV
  by_cases e : (q_P (a_V A)).1 = 0
  · refine ⟨(0, 0), σ', τ', A, ?_, ?_, hA, a_C58 hA hC s4, a_MD hM t4⟩
    · unfold f_X5_loudness
      rw [s1, z_bd, s2.1, if_pos (by unfold zr; omega), if_neg (by omega)]
    · obtain ⟨g, hg⟩ := z_f1 1 (by omega)
      unfold f_X6_loudness
      rw [t1, z_bd, hg]
      show f_X6_loudness_b8 _ τ' 0 0 = _
      unfold f_X6_loudness_b8
      rw [t2.1, if_pos (by unfold zr; omega), if_pos (by omega), if_pos (by unfold zr; omega), if_neg (by omega)]
  · obtain ⟨z, z1, z2⟩ := c_sumL s2 (by omega) (q_P (a_V A)).1.toNat z_fuel 0 0 (by unfold z_fuel; omega) (by omega) (by omega)
    refine ⟨(z, (q_P (a_V A)).1), σ', τ', A, ?_, ?_, hA, a_C58 hA hC s4, a_MD hM t4⟩
    · unfold f_X5_loudness f_X3_sumOfLevels
      rw [s1, z_bd, s2.1, if_pos (by unfold zr; omega), if_pos e, z1, z_bd, s2.1, if_pos e]
    · unfold f_X6_loudness
      rw [t1, z_bd]
      exact z2 τ' z_fuel t2 (by unfold z_fuel; omega) e
theorem o_share {A : zA} {σ τ : zS} (hA : a_ok A) (hC : a_C σ A) (hM : a_M τ A) : o_eqF (f_X5_share σ) (f_X6_share τ) := by
  have hV := hA.2.1
  have hF := hV.1
  have hMk := hV.2.1
  have hk : q_cok (a_V A) (q_C (a_V A)) (v_M (a_V A)) := q_kok hV _ _
  have hkn := hk.1
  obtain ⟨σ', s1, s2, s3⟩ := c_cur hC.2.1 hV
  obtain ⟨τ', t1, t2, t3⟩ := m_cur hM.2.1 hV
  have hM' := a_MF hM t3
  have h7 := hM'.2.1.1
  have h1 := (v_C0 hC.2.1).1
  by_cases e : v_F (a_V A) = 0
  · refine ⟨(0, 0), σ, τ', A, ?_, ?_, hA, hC, hM'⟩
    · unfold f_X5_share
      rw [h1, if_pos (by unfold zr; omega), if_neg (by omega)]
    · unfold f_X6_share
      rw [t1, z_bd, if_pos (by omega), h7, if_pos (by unfold zr; omega), if_neg (by omega)]
  · refine ⟨(v_F (a_V A) - q_sum (fun i => (q_C (a_V A)).2 1 i - (q_C (a_V A)).2 0 i) (q_C (a_V A)).1.toNat, v_F (a_V A)), σ', τ', A, ?_, ?_, hA, a_C48 hA hC s3, hM'⟩
    · unfold f_X5_share
      rw [h1, if_pos (by unfold zr; omega), if_pos e, s1, z_bd, c_cutFrames s2 (by omega), z_bd, s3 0 (by omega), h1, if_pos e]
    · unfold f_X6_share
      rw [t1, z_bd, if_pos (by omega), h7, if_pos (by unfold zr; omega), if_pos e, if_pos (by omega), m_sumOf t2 (by omega) (by omega), z_bd, if_pos (by omega), h7, if_pos e]
      rfl
