/-! THE CLASS' HISTORY -/
theorem c_copyMark {j k : Nat} {σ : zS} {a b : Int} (ha : 0 ≤ a ∧ a < 20) (hb : 0 ≤ b ∧ b < 20) (hh : 0 ≤ σ (8 * k + 6) a ∧ σ (8 * k + 6) a ≤ 1) : ∃ τ, f_X2_copyMark j k σ a b = some ((), τ) ∧ (∀ (c : Nat) (y : Int), 2 ≤ c → c ≤ 6 → τ (8 * j + c) y = if y = b then σ (8 * k + c) a else σ (8 * j + c) y) ∧ z_out (8 * j + 2) (8 * j + 6) σ τ := by
  refine ⟨z_up (z_up (z_up (z_up (z_up σ (8 * j + 2) b (σ (8 * k + 2) a)) (8 * j + 3) b (σ (8 * k + 3) a)) (8 * j + 4) b (σ (8 * k + 4) a)) (8 * j + 5) b (σ (8 * k + 5) a)) (8 * j + 6) b (σ (8 * k + 6) a), ?_, ?_, ?_⟩
  · have e1 : ∀ (σ : zS) (x y : Nat) (b v a : Int), y ≠ x → z_up σ x b v y a = σ y a := fun σ x y b v a h => z_rn h
    simp (disch := omega) only [f_X2_copyMark, z_put, z_ifp, e1]
  · intro c y h2 h6
    by_cases e : y = b
    · rw [if_pos e, e]
      rcases (show c = 2 ∨ c = 3 ∨ c = 4 ∨ c = 5 ∨ c = 6 by omega) with rfl | rfl | rfl | rfl | rfl
      · rw [z_rn (by omega), z_rn (by omega), z_rn (by omega), z_rn (by omega), z_re]
      · rw [z_rn (by omega), z_rn (by omega), z_rn (by omega), z_re]
      · rw [z_rn (by omega), z_rn (by omega), z_re]
      · rw [z_rn (by omega), z_re]
      · rw [z_re]
    · rw [if_neg e, z_ri e, z_ri e, z_ri e, z_ri e, z_ri e]
  · exact z_out_up (z_out_up (z_out_up (z_out_up (z_out_up z_out_rf (by omega) (by omega)) (by omega) (by omega)) (by omega) (by omega)) (by omega) (by omega)) (by omega) (by omega)
/-- the same recording with settings that may stand -/
abbrev v_1 (V : zV) : zV := (v_F V, v_M V, v_L V, v_K V, fun _ => 1)
theorem v_ok1 {V : zV} (h : v_ok V) : v_ok (v_1 V) := ⟨h.1, h.2.1, h.2.2.1, h.2.2.2.1, h.2.2.2.2.1, by
  show (0 ≤ (1 : Int) ∧ (1 : Int) ≤ 100) ∧ (0 ≤ (1 : Int) ∧ (1 : Int) ≤ 9) ∧ (0 ≤ (1 : Int) ∧ (1 : Int) ≤ 20) ∧ (0 ≤ (1 : Int) ∧ (1 : Int) ≤ 50) ∧ (0 ≤ (1 : Int) ∧ (1 : Int) ≤ 100) ∧ (0 ≤ (1 : Int) ∧ (1 : Int) ≤ 50) ∧ (0 ≤ (1 : Int) ∧ (1 : Int) ≤ 50)
  omega⟩
theorem c_copySound_l {j k : Nat} {V : zV} (hjk : j ≠ k) (hV : v_ok (v_1 V)) : ∀ (n f : Nat) (i : Int) (σ : zS), n < f → 0 ≤ i → i + n = v_M V → v_C σ k V → σ (8 * j) 7 = v_M V → (∀ (c : Nat) (m : Int), 2 ≤ c → c ≤ 6 → 0 ≤ m → m < i → σ (8 * j + c) m = σ (8 * k + c) m) → ∃ τ, f_X2_copySound_l34 j k f σ i = some ((), τ) ∧ (∀ (c : Nat) (m : Int), 2 ≤ c → c ≤ 6 → 0 ≤ m → m < v_M V → τ (8 * j + c) m = σ (8 * k + c) m) ∧ z_out (8 * j + 2) (8 * j + 6) σ τ := by
  intro n
  have hM : 0 ≤ v_M V ∧ v_M V ≤ 20 := hV.2.1
  induction n with
  | zero =>
    intro f i σ hf i0 hi hC h7 hcp
    obtain ⟨f, rfl⟩ : ∃ k, f = k + 1 := ⟨f - 1, by omega⟩
    refine ⟨σ, ?_, fun c m c2 c6 m0 m1 => hcp c m c2 c6 m0 (by omega), z_out_rf⟩
    unfold f_X2_copySound_l34 f_X2_copySound_b34
    rw [h7, if_pos (by unfold zr; omega), if_pos (by omega)]
  | succ n ih =>
    intro f i σ hf i0 hi hC h7 hcp
    obtain ⟨f, rfl⟩ : ∃ k, f = k + 1 := ⟨f - 1, by omega⟩
    have hmk : v_mok V i := hV.2.2.2.1 i i0 (show i < v_M V by omega)
    have hh := (hC.2.2.2.1 i i0 (by omega)).2.2.2.2
    unfold v_mok at hmk
    obtain ⟨υ, u1, u2, u3⟩ := c_copyMark (j := j) (k := k) (σ := σ) (a := i) (b := i) (by omega) (by omega) (by omega)
    have hk : ∀ c, 8 * k ≤ c → c ≤ 8 * k + 7 → υ c = σ c := fun c h1 h2 => u3 c (by omega)
    obtain ⟨τ, t1, t2, t3⟩ := ih f (i + 1) υ (by omega) (by omega) (by omega) (v_C_of hC hk) (by rw [u3 (8 * j) (by omega)]; exact h7) (fun c m c2 c6 m0 m1 => by
      rw [u2 c m c2 c6, hk (8 * k + c) (by omega) (by omega)]
      by_cases e : m = i
      · rw [if_pos e, e]
      · rw [if_neg e]; exact hcp c m c2 c6 m0 (by omega))
    refine ⟨τ, ?_, fun c m c2 c6 m0 m1 => by rw [t2 c m c2 c6 m0 m1, hk (8 * k + c) (by omega) (by omega)], z_out_tr u3 t3⟩
    unfold f_X2_copySound_l34 f_X2_copySound_b34
    rw [h7, if_pos (by unfold zr; omega), if_neg (by omega), u1, z_bd]
    exact t1
theorem z_cn {σ : zS} {k1 k2 : Nat} {i1 i2 n : Int} {a : Nat} (h : a ≠ k2) : z_cpy σ k1 i1 k2 i2 n a = σ a := by
  funext b; simp [z_cpy, h]
theorem z_ce {σ : zS} {k1 k2 : Nat} {n b : Int} (h : 0 ≤ b ∧ b < n) : z_cpy σ k1 0 k2 0 n k2 b = σ k1 b := by
  show (if k2 = k2 ∧ 0 ≤ b ∧ b < 0 + n then σ k1 (0 + (b - 0)) else σ k2 b) = _
  rw [if_pos ⟨rfl, by omega, by omega⟩]
  exact congrArg (σ k1) (by omega)
theorem c_copySound {j k : Nat} {σ : zS} {V : zV} (hjk : j ≠ k) (hC : v_C σ k V) (hV : v_ok (v_1 V)) {S : Int → Int} (hS : ∀ i, 0 ≤ i → i < 7 → σ (8 * j + 7) i = S i) : ∃ τ, f_X2_copySound j k σ = some ((), τ) ∧ v_C τ j (v_F V, v_M V, v_L V, v_K V, S) ∧ z_out (8 * j) (8 * j + 6) σ τ ∧ τ (8 * j + 7) = σ (8 * j + 7) := by
  have hM : 0 ≤ v_M V ∧ v_M V ≤ 20 := hV.2.1
  have hF : 0 ≤ v_F V ∧ v_F V ≤ 200 := hV.1
  obtain ⟨υ, hυ⟩ : ∃ υ, υ = z_up (z_cpy (z_up σ (8 * j) 1 (σ (8 * k) 1)) (8 * k + 1) 0 (8 * j + 1) 0 200) (8 * j) 7 (z_cpy (z_up σ (8 * j) 1 (σ (8 * k) 1)) (8 * k + 1) 0 (8 * j + 1) 0 200 (8 * k) 7) := ⟨_, rfl⟩
  have oυ : ∀ a, a ≠ 8 * j → a ≠ 8 * j + 1 → υ a = σ a := fun a h1 h2 => by
    rw [hυ]; funext b; rw [z_rn h1, z_cn h2, z_rn h1]
  have e7 : z_cpy (z_up σ (8 * j) 1 (σ (8 * k) 1)) (8 * k + 1) 0 (8 * j + 1) 0 200 (8 * k) 7 = v_M V := by
    rw [z_cn (by omega), z_rn (by omega)]; exact hC.2.1
  obtain ⟨τ, t1, t2, t3⟩ := c_copySound_l hjk hV (v_M V).toNat z_fuel 0 υ (by unfold z_fuel; omega) (by omega) (by omega) (v_C_of hC (fun a h1 h2 => oυ a (by omega) (by omega))) (by rw [hυ, z_re, e7]) (fun c m _ _ m0 m1 => by omega)
  refine ⟨τ, ?_, ⟨?_, ?_, fun i i0 i1 => ?_, fun m m0 m1 => ?_, fun i i0 i1 => ?_⟩, fun a ha => ?_, ?_⟩
  · unfold f_X2_copySound
    rw [z_put, if_pos (by omega), z_copy, z_put, ← hυ]
    exact t1
  · rw [t3 (8 * j) (by omega), hυ, z_ri (by omega), z_cn (by omega), z_re]; exact hC.1
  · rw [t3 (8 * j) (by omega), hυ, z_re, e7]
  · rw [t3 (8 * j + 1) (by omega), hυ, z_rn (by omega), z_ce (by have : i < v_F V := i1; omega), z_rn (by omega)]
    exact hC.2.2.1 i i0 i1
  · have m1 : m < v_M V := m1
    obtain ⟨g0, g1, g2, g3, g4⟩ := hC.2.2.2.1 m m0 m1
    rw [t2 2 m (by omega) (by omega) m0 m1, t2 3 m (by omega) (by omega) m0 m1, t2 4 m (by omega) (by omega) m0 m1, t2 5 m (by omega) (by omega) m0 m1, t2 6 m (by omega) (by omega) m0 m1, oυ (8 * k + 2) (by omega) (by omega), oυ (8 * k + 3) (by omega) (by omega), oυ (8 * k + 4) (by omega) (by omega), oυ (8 * k + 5) (by omega) (by omega), oυ (8 * k + 6) (by omega) (by omega)]
    exact ⟨g0, g1, g2, g3, g4⟩
  · rw [t3 (8 * j + 7) (by omega), oυ (8 * j + 7) (by omega) (by omega)]
    exact hS i i0 i1
  · rw [t3 a (by omega), oυ a (by omega) (by omega)]
  · rw [t3 (8 * j + 7) (by omega), oυ (8 * j + 7) (by omega) (by omega)]
theorem c_copyAll {j k : Nat} {σ : zS} {V : zV} (hjk : j ≠ k) (hC : v_C σ k V) (hV : v_ok V) : ∃ τ, f_X2_copyAll j k σ = some ((), τ) ∧ v_C τ j V ∧ z_out (8 * j) (8 * j + 7) σ τ := by
  obtain ⟨υ, u1, u2, u3, u4⟩ := c_copySound hjk hC (v_ok1 hV) (S := σ (8 * j + 7)) (fun i _ _ => rfl)
  refine ⟨z_cpy υ (8 * k + 7) 0 (8 * j + 7) 0 7, ?_, ?_, fun a ha => ?_⟩
  · unfold f_X2_copyAll
    rw [u1, z_bd, if_pos (by omega), z_copy]
  · have hk7 : υ (8 * k + 7) = σ (8 * k + 7) := u3 _ (by omega)
    obtain ⟨g1, g2, g3, g4, g5⟩ := u2
    refine ⟨by rw [z_cn (by omega)]; exact g1, by rw [z_cn (by omega)]; exact g2, fun i i0 i1 => by rw [z_cn (by omega)]; exact g3 i i0 i1, fun m m0 m1 => ?_, fun i i0 i1 => ?_⟩
    · rw [z_cn (by omega), z_cn (by omega), z_cn (by omega), z_cn (by omega), z_cn (by omega)]
      exact g4 m m0 m1
    · rw [z_ce (by omega), hk7]
      exact hC.2.2.2.2 i i0 i1
  · rw [z_cn (by omega)]
    exact u3 a (by omega)
/-- the class' history: hn states, the i-th holds hs i -/
def c_H (σ : zS) (hn : Int) (hs : Int → zV) : Prop := σ 60 1 = hn ∧ (∀ i, 0 ≤ i → i < 4 → 1 ≤ σ 61 i ∧ σ 61 i ≤ 4) ∧ (∀ i k, 0 ≤ i → i < 4 → 0 ≤ k → k < 4 → σ 61 i = σ 61 k → i = k) ∧ ∀ i, 0 ≤ i → i < hn → v_C σ (σ 61 i).toNat (hs i)
def h_ok (hn : Int) (hs : Int → zV) : Prop := (0 ≤ hn ∧ hn ≤ 4) ∧ ∀ i, 0 ≤ i → i < hn → v_ok (hs i)
theorem c_H_of {σ τ : zS} {hn : Int} {hs : Int → zV} (h : c_H σ hn hs) (hle : hn ≤ 4) (he : ∀ a, (8 ≤ a ∧ a ≤ 39) ∨ a = 60 ∨ a = 61 → τ a = σ a) : c_H τ hn hs := by
  obtain ⟨h1, h2, h3, h4⟩ := h
  unfold c_H
  rw [he 60 (by omega), he 61 (by omega)]
  refine ⟨h1, h2, h3, fun i i0 i1 => v_C_of (h4 i i0 i1) (fun a a1 a2 => he a (by have := h2 i i0 (by omega); omega))⟩
/-- the history with V kept -/
def a_keep (hn : Int) (hs : Int → zV) (V : zV) : Int × (Int → zV) := if hn < 4 then (hn + 1, fun i => if i = hn then V else hs i) else (4, fun i => if i = 3 then V else hs (i + 1))
theorem a_keep_ok {hn : Int} {hs : Int → zV} {V : zV} (h : h_ok hn hs) (hV : v_ok V) : h_ok (a_keep hn hs V).1 (a_keep hn hs V).2 := by
  obtain ⟨h1, h2⟩ := h
  unfold a_keep
  by_cases a : hn < 4
  · rw [if_pos a]
    refine ⟨by show 0 ≤ hn + 1 ∧ hn + 1 ≤ 4; omega, fun i i0 i1 => ?_⟩
    have i1 : i < hn + 1 := i1
    show v_ok (if i = hn then V else hs i)
    by_cases e : i = hn
    · rw [if_pos e]; exact hV
    · rw [if_neg e]; exact h2 i i0 (by omega)
  · rw [if_neg a]
    refine ⟨by show (0 : Int) ≤ 4 ∧ (4 : Int) ≤ 4; omega, fun i i0 i1 => ?_⟩
    have i1 : i < 4 := i1
    show v_ok (if i = 3 then V else hs (i + 1))
    by_cases e : i = 3
    · rw [if_pos e]; exact hV
    · rw [if_neg e]; exact h2 (i + 1) (by omega) (by omega)
theorem c_keep12 {σ : zS} {hn : Int} {hs : Int → zV} {V : zV} (hH : c_H σ hn hs) (h0 : 0 ≤ hn ∧ hn < 4) (hC : v_C σ 0 V) (hV : v_ok V) : ∃ τ, f_X1_keep_b12 0 σ = some ((), τ) ∧ c_H τ (hn + 1) (fun i => if i = hn then V else hs i) ∧ z_out 8 60 σ τ := by
  obtain ⟨h1, h2, h3, h4⟩ := hH
  have p := h2 hn (by omega) (by omega)
  obtain ⟨υ, u1, u2, u3⟩ := c_copyAll (j := (σ 61 hn).toNat) (k := 0) (by omega) hC hV
  have h60 : υ 60 = σ 60 := u3 60 (by omega)
  have h61 : υ 61 = σ 61 := u3 61 (by omega)
  have eυ : ∀ a, a ≠ 60 → z_up υ 60 1 (υ 60 1 + 1) a = υ a := fun a ha => by funext b; exact z_rn ha
  refine ⟨z_up υ 60 1 (υ 60 1 + 1), ?_, ⟨?_, ?_, ?_, fun i i0 i1 => ?_⟩, fun a ha => ?_⟩
  · unfold f_X1_keep_b12
    rw [h1, if_pos (by omega), u1, z_bd, z_put]
  · rw [z_re, h60, h1]
  · rw [eυ 61 (by omega), h61]; exact h2
  · rw [eυ 61 (by omega), h61]; exact h3
  · rw [eυ 61 (by omega), h61]
    have q := h2 i i0 (by omega)
    by_cases e : i = hn
    · simp only [e, if_true]
      exact v_C_of u2 (fun a a1 a2 => eυ a (by omega))
    · simp only [if_neg e]
      have ne : (σ 61 i).toNat ≠ (σ 61 hn).toNat := fun h => e (h3 i hn i0 (by omega) (by omega) (by omega) (by omega))
      exact v_C_of (h4 i i0 (by omega)) (fun a a1 a2 => by rw [eυ a (by omega)]; exact u3 a (by omega))
  · rw [eυ a (by omega)]
    exact u3 a (by omega)
