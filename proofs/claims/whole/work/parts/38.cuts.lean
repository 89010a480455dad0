/-! ABOUT, CUTS, CUT, SUM -/
abbrev q_C (V : zV) : zL := q_cuts V (v_S V 0) (v_S V 2) (v_M V).toNat
theorem q_kok {V : zV} (hV : v_ok V) (d w : Int) : q_cok V (q_cuts V d w (v_M V).toNat) (v_M V) := by
  have hM := hV.2.1
  have := q_cuts_ok hV (d := d) (w := w) (v_M V).toNat (by omega)
  rw [show (((v_M V).toNat : Nat) : Int) = v_M V by omega] at this
  exact this
theorem c_cur {σ : zS} {V : zV} (hC : v_C σ 0 V) (hV : v_ok V) : ∃ σ', f_X5_currentCuts σ = some ((), σ') ∧ r_C σ' (q_C V) ∧ z_out 48 53 σ σ' := by
  have s0 := (v_C0 hC).2.2.2.2 0 (by omega) (by omega)
  have s2 := (v_C0 hC).2.2.2.2 2 (by omega) (by omega)
  have k0 := hV.2.2.2.2.2.1
  have k2 := hV.2.2.2.2.2.2.2.1
  obtain ⟨σ', t1, t2, t3⟩ := c_find hC hV k0 k2
  refine ⟨σ', ?_, t2, t3⟩
  unfold f_X5_currentCuts
  rw [if_pos (by omega), if_pos (by omega), s0, s2, t1, z_bd]
theorem m_cur {τ : zS} {V : zV} (hR : v_R (τ 1) V) (hV : v_ok V) : ∃ τ', f_X6_finds τ = some ((), τ') ∧ r_M τ' (q_C V) ∧ z_ex p_F τ τ' := m_finds (v_Q_of hR) hV hV.2.2.2.2.2.1 hV.2.2.2.2.2.2.2.1
theorem a_C48 {σ σ' : zS} {A : zA} (hA : a_ok A) (hC : a_C σ A) (h : z_out 48 53 σ σ') : a_C σ' A := a_C_of hA hC (fun a ha => h a (by omega))
theorem a_MF {τ τ' : zS} {A : zA} (hM : a_M τ A) (h : z_ex p_F τ τ') : a_M τ' A := a_M_of hM h (by omega) (by omega) (fun b => by omega)
theorem c_num {σ : zS} {V : zV} {m c : Int} (hC : v_C σ 0 V) (hV : v_ok V) (m0 : 0 ≤ m) (m1 : m < v_M V) (hc : 0 ≤ c ∧ c ≤ 4) : f_X2_numberOfMark 0 σ m c = some (v_K V c m, σ) := by
  have hM := hV.2.1
  have h := c_hasMark hC hV (x := m) (by unfold zr; omega)
  have hk := hV.2.2.2.1 m m0 m1
  unfold v_mok at hk
  obtain ⟨e0, e1, e2, e3, e4⟩ := (v_C0 hC).2.2.2.1 m m0 m1
  unfold f_X2_numberOfMark f_X2_numberOfMark_b86
  simp only [Nat.mul_zero, Nat.zero_add]
  rw [h, z_bd, if_pos (show 0 ≤ m ∧ m < v_M V from ⟨m0, m1⟩), if_pos (by decide), if_pos (by omega), if_pos (by unfold zr; omega)]
  rcases (show c = 0 ∨ c = 1 ∨ c = 2 ∨ c = 3 ∨ c = 4 by omega) with rfl | rfl | rfl | rfl | rfl
  · rw [if_pos rfl, if_pos (by omega), e0]
  · rw [if_neg (by omega), if_pos rfl, if_pos (by omega), e1]
  · rw [if_neg (by omega), if_neg (by omega), if_pos rfl, if_pos (by omega), e2]
  · rw [if_neg (by omega), if_neg (by omega), if_neg (by omega), if_pos rfl, if_pos (by omega), e3]
  · rw [if_neg (by omega), if_neg (by omega), if_neg (by omega), if_neg (by omega), if_pos rfl, if_pos (by omega), e4, if_pos (by unfold zr; omega)]
    by_cases a : v_K V 4 m = 0
    · rw [if_pos a, a]
    · rw [if_neg a, show v_K V 4 m = 1 by omega]
theorem m_ofc {σ : zS} {V : zV} {m c : Int} (hR : v_R (σ 1) V) (hV : v_ok V) (m0 : 0 ≤ m) (m1 : m < v_M V) (hc : 0 ≤ c ∧ c ≤ 4) : f_X6_of σ m c = some (v_K V c m, σ) := by
  obtain ⟨e0, e1, e2, e3, e4⟩ := m_of (v_Q_of hR) hV m0 m1
  rcases (show c = 0 ∨ c = 1 ∨ c = 2 ∨ c = 3 ∨ c = 4 by omega) with rfl | rfl | rfl | rfl | rfl
  · exact e0
  · exact e1
  · exact e2
  · exact e3
  · exact e4
theorem m_told {σ : zS} {V : zV} {s : zL} {m c : Int} (hR : v_R (σ 1) V) (hV : v_ok V) (hs : r_M σ s) (hk : q_cok V s (v_M V)) (m0 : 0 ≤ m) (m1 : m < v_M V) (hc : 0 ≤ c ∧ c ≤ 5) : f_X6_told σ m c = some (if c < 5 then v_K V c m else q_cutOf s m s.1.toNat 0, σ) := by
  have hM := hV.2.1
  have hn := hk.1
  unfold f_X6_told f_X6_told_b19
  rw [if_pos (by unfold zr; omega)]
  by_cases a : c < 5
  · rw [if_neg (by omega), m_ofc hR hV m0 m1 (by omega), z_bd, if_pos a]
  · rw [if_pos (by omega), m_cutOf hs hk hM.2 (by unfold zr; omega) (by omega), z_bd, if_neg a]
theorem o_about {A : zA} {σ τ : zS} {m c : Int} (hA : a_ok A) (hC : a_C σ A) (hM : a_M τ A) (hm : zr m) (hc : zr c) : o_eq (f_X5_about σ m c) (f_X6_about τ m c) := by
  have hV := hA.2.1
  have hMk := hV.2.1
  have hk : q_cok (a_V A) (q_C (a_V A)) (v_M (a_V A)) := q_kok hV _ _
  have hn := hk.1
  have h := c_hasMark hC.2.1 hV hm
  obtain ⟨τ', t1, t2, t3⟩ := m_cur hM.2.1 hV
  have hM' := a_MF hM t3
  have hi := m_isMark hM'.2.1 hV hm
  have hj := m_in (σ := τ') hc (show zr 0 by decide) (show zr 5 by decide)
  have hcc := hc
  unfold zr at hcc
  by_cases a : 0 ≤ m ∧ m < v_M (a_V A)
  · rw [if_pos a] at h hi
    by_cases b : 0 ≤ c ∧ c ≤ 5
    · rw [if_pos b] at hj
      have ht := m_told hM'.2.1 hV t2 hk a.1 a.2 b
      have fM : f_X6_about τ m c = some (if c < 5 then v_K (a_V A) c m else q_cutOf (q_C (a_V A)) m (q_C (a_V A)).1.toNat 0, τ') := by
        unfold f_X6_about f_X6_about_b31
        rw [t1, z_bd, hi, z_bd, if_pos (by decide), if_neg (by omega), hj, z_bd, if_pos (by decide), if_neg (by omega), ht, z_bd]
      by_cases d : c < 5
      · rw [if_pos d] at fM
        refine ⟨_, σ, τ', A, ?_, fM, hA, hC, hM'⟩
        unfold f_X5_about
        rw [h, z_bd, if_pos (by decide), if_neg (by omega), if_pos hc, if_neg (by omega), if_pos hc, if_pos (by omega), if_pos hc, if_pos (by omega), c_num hC.2.1 hV a.1 a.2 (by omega), z_bd]
      · rw [if_neg d] at fM
        obtain ⟨σ', s1, s2, s3⟩ := c_cur hC.2.1 hV
        refine ⟨_, σ', τ', A, ?_, fM, hA, a_C48 hA hC s3, hM'⟩
        unfold f_X5_about
        rw [h, z_bd, if_pos (by decide), if_neg (by omega), if_pos hc, if_neg (by omega), if_pos hc, if_pos (by omega), if_pos hc, if_neg (by omega), s1, z_bd, c_cutOf s2 hk hMk.2 hm (by omega), z_bd]
    · rw [if_neg b] at hj
      refine ⟨-1, σ, τ', A, ?_, ?_, hA, hC, hM'⟩
      · unfold f_X5_about f_X5_about_b20
        rw [h, z_bd, if_pos (by decide), if_neg (by omega), if_pos hc]
        by_cases d : c < 0
        · rw [if_pos d]
        · rw [if_neg d, if_pos hc, if_neg (by omega)]
      · unfold f_X6_about f_X6_about_b30 f_X6_about_b31
        rw [t1, z_bd, hi, z_bd, if_pos (by decide), if_neg (by omega), hj, z_bd, if_pos (by decide), if_pos rfl]
  · rw [if_neg a] at h hi
    refine ⟨-1, σ, τ', A, ?_, ?_, hA, hC, hM'⟩
    · unfold f_X5_about f_X5_about_b20
      rw [h, z_bd, if_pos (by decide), if_pos rfl]
    · unfold f_X6_about f_X6_about_b30 f_X6_about_b31
      rw [t1, z_bd, hi, z_bd, if_pos (by decide), if_pos rfl]
theorem o_cuts {A : zA} {σ τ : zS} (hA : a_ok A) (hC : a_C σ A) (hM : a_M τ A) : o_eq (f_X5_cuts σ) (f_X6_cuts τ) := by
  have hV := hA.2.1
  obtain ⟨σ', s1, s2, s3⟩ := c_cur hC.2.1 hV
  obtain ⟨τ', t1, t2, t3⟩ := m_cur hM.2.1 hV
  refine ⟨(q_C (a_V A)).1, σ', τ', A, ?_, ?_, hA, a_C48 hA hC s3, a_MF hM t3⟩
  · unfold f_X5_cuts
    rw [s1, z_bd, s2.1]
  · unfold f_X6_cuts
    rw [t1, z_bd, t2.1]
theorem c_numCut {σ : zS} {V : zV} {s : zL} {k x c : Int} (hs : r_C σ s) (hk : q_cok V s k) (hk2 : k ≤ 20) (hx : 0 ≤ x ∧ x < s.1) (hc : 0 ≤ c ∧ c ≤ 4) : f_X0_numberOfCut σ x c = some (s.2 c x, σ) := by
  have hn := hk.1
  have h5 := hs.1
  obtain ⟨e0, e1, e2, e3, e4⟩ := hs.2 x hx.1 hx.2
  have h3 := (hk.2.1 x hx.1 hx.2).2.2.1
  unfold f_X0_numberOfCut f_X0_numberOfCut_b83
  rw [if_pos (by unfold zr; omega), if_neg (by omega), h5, if_pos (by unfold zr; omega), if_pos (by omega), if_pos (by unfold zr; omega)]
  rcases (show c = 0 ∨ c = 1 ∨ c = 2 ∨ c = 3 ∨ c = 4 by omega) with rfl | rfl | rfl | rfl | rfl
  · rw [if_pos rfl, if_pos (by omega), e0]
  · rw [if_neg (by omega), if_pos rfl, if_pos (by omega), e1]
  · rw [if_neg (by omega), if_neg (by omega), if_pos rfl, if_pos (by omega), e2]
  · rw [if_neg (by omega), if_neg (by omega), if_neg (by omega), if_pos rfl, if_pos (by omega), e3, if_pos (by unfold zr; omega)]
    by_cases a : s.2 3 x = 0
    · rw [if_pos a, a]
    · rw [if_neg a, show s.2 3 x = 1 by omega]
  · rw [if_neg (by omega), if_neg (by omega), if_neg (by omega), if_neg (by omega), if_pos rfl, if_pos (by omega), e4]
theorem m_cutc {σ : zS} {s : zL} {x c : Int} (hs : r_M σ s) (hx : 0 ≤ x ∧ x < s.1) (hc : 0 ≤ c ∧ c ≤ 4) : σ 6 (5 * x + c) = s.2 c x := by
  obtain ⟨e0, e1, e2, e3, e4⟩ := hs.2 x hx.1 hx.2
  rcases (show c = 0 ∨ c = 1 ∨ c = 2 ∨ c = 3 ∨ c = 4 by omega) with rfl | rfl | rfl | rfl | rfl
  · rw [show 5 * x + 0 = 5 * x by omega]; exact e0
  · exact e1
  · exact e2
  · exact e3
  · exact e4
theorem o_cut {A : zA} {σ τ : zS} {x c : Int} (hA : a_ok A) (hC : a_C σ A) (hM : a_M τ A) (hx : zr x) (hc : zr c) : o_eq (f_X5_cut σ x c) (f_X6_cut τ x c) := by
  have hV := hA.2.1
  have hMk := hV.2.1
  have hk : q_cok (a_V A) (q_C (a_V A)) (v_M (a_V A)) := q_kok hV _ _
  have hn := hk.1
  obtain ⟨σ', s1, s2, s3⟩ := c_cur hC.2.1 hV
  obtain ⟨τ', t1, t2, t3⟩ := m_cur hM.2.1 hV
  have h5 := s2.1
  have h12 := t2.1
  have hi := m_in (σ := τ') hx (show zr 0 by decide) (show zr ((q_C (a_V A)).1 - 1) by unfold zr; omega)
  have hj := m_in (σ := τ') hc (show zr 0 by decide) (show zr 4 by decide)
  have hcc := hc
  have hxx := hx
  unfold zr at hcc hxx
  by_cases a : 0 ≤ x ∧ x < (q_C (a_V A)).1
  · rw [if_pos (by omega)] at hi
    by_cases b : 0 ≤ c ∧ c ≤ 4
    · rw [if_pos b] at hj
      refine ⟨(q_C (a_V A)).2 c x, σ', τ', A, ?_, ?_, hA, a_C48 hA hC s3, a_MF hM t3⟩
      · unfold f_X5_cut
        rw [s1, z_bd, if_pos hx, if_neg (by omega), h5, if_pos (by unfold zr; omega), if_neg (by omega), if_pos hc, if_neg (by omega), if_pos hc, if_pos (by omega), c_numCut s2 hk hMk.2 a b, z_bd]
      · unfold f_X6_cut f_X6_cut_b41
        rw [t1, z_bd, h12, hi, z_bd, if_pos (by decide), if_neg (by omega), hj, z_bd, if_pos (by decide), if_neg (by omega), if_pos (by omega), m_cutc t2 a b]
    · rw [if_neg b] at hj
      refine ⟨-1, σ', τ', A, ?_, ?_, hA, a_C48 hA hC s3, a_MF hM t3⟩
      · unfold f_X5_cut f_X5_cut_b26
        rw [s1, z_bd, if_pos hx, if_neg (by omega), h5, if_pos (by unfold zr; omega), if_neg (by omega), if_pos hc]
        by_cases d : c < 0
        · rw [if_pos d]
        · rw [if_neg d, if_pos hc, if_neg (by omega)]
      · unfold f_X6_cut f_X6_cut_b40 f_X6_cut_b41
        rw [t1, z_bd, h12, hi, z_bd, if_pos (by decide), if_neg (by omega), hj, z_bd, if_pos (by decide), if_pos rfl]
  · rw [if_neg (by omega)] at hi
    refine ⟨-1, σ', τ', A, ?_, ?_, hA, a_C48 hA hC s3, a_MF hM t3⟩
    · unfold f_X5_cut f_X5_cut_b26
      rw [s1, z_bd, if_pos hx]
      by_cases d : x < 0
      · rw [if_pos d]
      · rw [if_neg d, h5, if_pos (by unfold zr; omega), if_pos (by omega)]
    · unfold f_X6_cut f_X6_cut_b40 f_X6_cut_b41
      rw [t1, z_bd, h12, hi, z_bd, if_pos (by decide), if_pos rfl]
theorem o_sum {A : zA} {σ τ : zS} {x : Int} (hA : a_ok A) (hC : a_C σ A) (hM : a_M τ A) (hx : zr x) : o_eq (f_X5_sum σ x) (f_X6_sum τ x) := by
  have hV := hA.2.1
  have hMk := hV.2.1
  have hk : q_cok (a_V A) (q_C (a_V A)) (v_M (a_V A)) := q_kok hV _ _
  have hn := hk.1
  obtain ⟨σ', s1, s2, s3⟩ := c_cur hC.2.1 hV
  obtain ⟨τ', t1, t2, t3⟩ := m_cur hM.2.1 hV
  have hi := m_in (σ := τ') hx (show zr 0 by decide) (show zr 2 by decide)
  by_cases a : 0 ≤ x ∧ x ≤ 2
  · rw [if_pos a] at hi
    refine ⟨q_sum (q_w (q_C (a_V A)) x) (q_C (a_V A)).1.toNat, σ', τ', A, ?_, ?_, hA, a_C48 hA hC s3, a_MF hM t3⟩
    · unfold f_X5_sum
      rw [s1, z_bd, if_pos hx]
      rcases (show x = 0 ∨ x = 1 ∨ x = 2 by omega) with rfl | rfl | rfl
      · rw [if_pos rfl, c_cutFrames s2 (by omega), z_bd]; rfl
      · rw [if_neg (by omega), if_pos rfl, c_pauseFrames s2 (by omega), z_bd]; rfl
      · rw [if_neg (by omega), if_neg (by omega), if_pos rfl, c_roughCuts s2 hk (by omega), z_bd]; rfl
    · unfold f_X6_sum f_X6_sum_b22
      rw [t1, z_bd, hi, z_bd, if_pos (by decide), if_neg (by omega), m_sumOf t2 (by omega) a, z_bd]
  · rw [if_neg a] at hi
    refine ⟨-1, σ', τ', A, ?_, ?_, hA, a_C48 hA hC s3, a_MF hM t3⟩
    · unfold f_X5_sum
      rw [s1, z_bd, if_pos hx, if_neg (by omega), if_neg (by omega), if_neg (by omega)]
    · unfold f_X6_sum f_X6_sum_b22
      rw [t1, z_bd, hi, z_bd, if_pos (by decide), if_pos rfl]
