/-! READ: THE TEXT, SIGN BY SIGN -/
/-- the class' draft holds D (its settings aside); the reference's -/
def c_D (σ : zS) (D : zV) : Prop := σ 40 1 = v_F D ∧ σ 40 7 = v_M D ∧ (∀ i, 0 ≤ i → i < v_F D → σ 41 i = v_L D i) ∧ ∀ m, 0 ≤ m → m < v_M D → σ 42 m = v_K D 0 m ∧ σ 43 m = v_K D 1 m ∧ σ 44 m = v_K D 2 m ∧ σ 45 m = v_K D 3 m ∧ σ 46 m = v_K D 4 m
def m_D (τ : zS) (D : zV) : Prop := τ 0 7 = v_F D ∧ τ 0 8 = v_M D ∧ (∀ i, 0 ≤ i → i < v_F D → τ 4 i = v_L D i) ∧ ∀ m, 0 ≤ m → m < v_M D → τ 5 (5 * m) = v_K D 0 m ∧ τ 5 (5 * m + 1) = v_K D 1 m ∧ τ 5 (5 * m + 2) = v_K D 2 m ∧ τ 5 (5 * m + 3) = v_K D 3 m ∧ τ 5 (5 * m + 4) = v_K D 4 m
/-- a draft of the first a signs; wr: where the first doubt stands that is too great, or -1 -/
def d_ok (D : zV) (wr a : Int) : Prop := (0 ≤ v_F D ∧ v_F D ≤ a) ∧ (0 ≤ v_M D ∧ v_M D ≤ 20) ∧ (∀ i, 0 ≤ i → i < v_F D → 0 ≤ v_L D i ∧ v_L D i ≤ 9) ∧ (∀ m, 0 ≤ m → m < v_M D → (0 ≤ v_K D 0 m ∧ v_K D 0 m ≤ 3) ∧ (0 ≤ v_K D 1 m ∧ v_K D 1 m < v_K D 2 m ∧ v_K D 2 m ≤ v_F D) ∧ (0 ≤ v_K D 3 m ∧ v_K D 3 m ≤ 999 ∧ (wr = -1 → v_K D 3 m ≤ 100)) ∧ v_K D 4 m = 0) ∧ (∀ m, 0 ≤ m → m + 1 < v_M D → v_K D 2 m ≤ v_K D 1 (m + 1)) ∧ (-1 ≤ wr ∧ wr ≤ 120)
abbrev z_dg (c : Int) : Prop := 48 ≤ c ∧ c ≤ 57
def z_pf (σ σ' : zS) : Prop := ∀ a, (a < 40 ∨ 46 < a) → a ≠ 59 → σ' a = σ a
theorem z_pf_rf {σ : zS} : z_pf σ σ := fun _ _ _ => rfl
theorem z_pf_tr {σ τ υ : zS} (h1 : z_pf σ τ) (h2 : z_pf τ υ) : z_pf σ υ := fun a h h' => (h2 a h h').trans (h1 a h h')
abbrev p_P (a : Nat) (b : Int) : Prop := a = 4 ∨ a = 5 ∨ (a = 0 ∧ 5 ≤ b ∧ b ≤ 8)
theorem d_push {D : zV} {wr a l : Int} (h : d_ok D wr a) (hl : 0 ≤ l ∧ l ≤ 9) : d_ok (v_push D l) wr (a + 1) := by
  obtain ⟨h1, h2, h3, h4, h5, h6⟩ := h
  refine ⟨by show 0 ≤ v_F D + 1 ∧ v_F D + 1 ≤ a + 1; omega, h2, fun i i0 i1 => ?_, fun m m0 m1 => ?_, h5, h6⟩
  · have i1 : i < v_F D + 1 := i1
    show 0 ≤ (if i = v_F D then l else v_L D i) ∧ (if i = v_F D then l else v_L D i) ≤ 9
    by_cases e : i = v_F D
    · rw [if_pos e]; exact hl
    · rw [if_neg e]; exact h3 i i0 (by omega)
  · have h := h4 m m0 m1
    show _ ∧ (_ ∧ _ ∧ v_K D 2 m ≤ v_F D + 1) ∧ _
    exact ⟨h.1, ⟨h.2.1.1, h.2.1.2.1, by omega⟩, h.2.2⟩
theorem d_le {D : zV} {wr a b : Int} (h : d_ok D wr a) (hab : a ≤ b) : d_ok D wr b := ⟨by have := h.1; omega, h.2⟩
-- the class' steps
theorem c_isDigit {σ : zS} {c : Int} (hc : zr c) : f_X4_isDigit σ c = some (if z_dg c then 1 else 0, σ) := by
  have hcc := hc
  unfold zr at hcc
  unfold f_X4_isDigit f_X4_isDigit_b16 f_X4_isDigit_b17
  rw [if_pos hc]
  by_cases a : c < 48
  · rw [if_pos a, if_neg (show ¬ z_dg c by unfold z_dg; omega), if_pos (by omega)]
  · rw [if_neg a, if_pos hc]
    by_cases b : 57 < c
    · rw [if_pos b, if_neg (show ¬ z_dg c by unfold z_dg; omega), if_pos (by omega)]
    · rw [if_neg b, if_pos (show z_dg c by unfold z_dg; omega), if_pos (by omega)]
theorem c_dframe {σ : zS} {D : zV} {l : Int} (hC : c_D σ D) (hF : 0 ≤ v_F D ∧ v_F D < 200) : ∃ τ, f_X2_addFrame 5 σ l = some ((), τ) ∧ c_D τ (v_push D l) ∧ (∀ a, a ≠ 40 → a ≠ 41 → τ a = σ a) := by
  obtain ⟨h1, h2, h3, h4⟩ := hC
  refine ⟨z_up (z_up σ 41 (v_F D) l) 40 1 (v_F D + 1), ?_, ⟨z_re, ?_, fun i i0 i1 => ?_, fun m m0 m1 => ?_⟩, fun a a0 a1 => by funext b; rw [z_rn a0, z_rn a1]⟩
  · unfold f_X2_addFrame f_X2_addFrame_b30
    show (if zr (σ 40 1) then if 200 ≤ (σ 40 1) then _ else if 0 ≤ (σ 40 1) ∧ (σ 40 1) < 200 then z_put σ 41 (σ 40 1) l fun σ1 => z_put σ1 40 1 ((σ1 40 1) + 1) fun σ2 => some ((), σ2) else none else none) = _
    rw [h1, if_pos (by unfold zr; omega), if_neg (by omega), if_pos (by omega), z_put, z_rn (by omega), h1, z_put]
  · rw [z_ri (by omega), z_rn (by omega)]; exact h2
  · have i1 : i < v_F D + 1 := i1
    show _ = if i = v_F D then l else v_L D i
    rw [z_rn (by omega)]
    by_cases e : i = v_F D
    · rw [if_pos e, e, z_re]
    · rw [if_neg e, z_ri e]; exact h3 i i0 (by omega)
  · rw [z_rn (by omega), z_rn (by omega), z_rn (by omega), z_rn (by omega), z_rn (by omega), z_rn (by omega), z_rn (by omega), z_rn (by omega), z_rn (by omega), z_rn (by omega)]
    exact h4 m m0 m1
theorem c_dmark {σ : zS} {D : zV} {wr a k f d : Int} (hC : c_D σ D) (hD : d_ok D wr a) (hM : v_M D < 20) (hf : 0 ≤ f ∧ f < v_F D) (ha : a ≤ 200) (hl : ∀ m, 0 ≤ m → m < v_M D → v_K D 2 m ≤ f) : ∃ τ, f_X2_addMark 5 σ k f (v_F D) d = some (v_M D, τ) ∧ c_D τ (v_ins D (v_M D) k f (v_F D) d) ∧ (∀ a, a ≠ 40 → (a < 42 ∨ 46 < a) → τ a = σ a) := by
  obtain ⟨h1, h2, h3, h4⟩ := hC
  obtain ⟨d1, d2, d3, d4, d5, d6⟩ := hD
  obtain ⟨x, hx⟩ : ∃ x, x = v_M D := ⟨_, rfl⟩
  refine ⟨z_up (z_up (z_up (z_up (z_up (z_up σ 42 x k) 43 x f) 44 x (v_F D)) 45 x d) 46 x 0) 40 7 (v_M D + 1), ?_, ⟨?_, z_re, fun i i0 i1 => ?_, fun m m0 m1 => ?_⟩, fun a a0 a1 => by funext b; rw [z_rn a0, z_rn (by omega), z_rn (by omega), z_rn (by omega), z_rn (by omega), z_rn (by omega)]⟩
  · have hB : f_X2_addMark_b53 5 σ k f (v_F D) d x = some (x, z_up (z_up (z_up (z_up (z_up (z_up σ 42 x k) 43 x f) 44 x (v_F D)) 45 x d) 46 x 0) 40 7 (v_M D + 1)) := by
      unfold f_X2_addMark_b53
      show (if 0 ≤ x ∧ x < 20 then z_put σ 42 x k fun σ1 => if 0 ≤ x ∧ x < 20 then z_put σ1 43 x f fun σ2 => if 0 ≤ x ∧ x < 20 then z_put σ2 44 x (v_F D) fun σ3 => if 0 ≤ x ∧ x < 20 then z_put σ3 45 x d fun σ4 => if (0 ≤ x ∧ x < 20) ∧ 0 ≤ (0 : Int) ∧ (0 : Int) ≤ 1 then z_put σ4 46 x 0 fun σ5 => z_put σ5 40 7 ((σ5 40 7) + 1) fun σ6 => some (x, σ6) else none else none else none else none else none) = _
      rw [if_pos (by omega), z_put, if_pos (by omega), z_put, if_pos (by omega), z_put, if_pos (by omega), z_put, if_pos (by omega), z_put, z_put]
      rw [z_rn (by omega), z_rn (by omega), z_rn (by omega), z_rn (by omega), z_rn (by omega), h2]
    obtain ⟨g, hg⟩ := z_f1 1 (by omega)
    unfold f_X2_addMark
    show (if zr (σ 40 7) then if (σ 40 7) < 20 then f_X2_addMark_l18 5 z_fuel σ k f (v_F D) d (σ 40 7) else _ else none) = _
    rw [h2, if_pos (by unfold zr; omega), if_pos hM, hg]
    show f_X2_addMark_b18 5 _ σ k f (v_F D) d (v_M D) = _
    rw [← hx] at hB ⊢
    unfold f_X2_addMark_b18
    show (if zr x then if x ≤ 0 then _ else if 0 ≤ (x - 1) ∧ (x - 1) < 20 then if zr (σ 43 (x - 1)) ∧ zr f then if (σ 43 (x - 1)) ≤ f then _ else _ else none else none else none) = _
    rw [if_pos (by unfold zr; omega)]
    by_cases e : x ≤ 0
    · rw [if_pos e]; exact hB
    · have g1 := (h4 (x - 1) (by omega) (by omega)).2.1
      have g2 := hl (x - 1) (by omega) (by omega)
      have g3 := (d4 (x - 1) (by omega) (by omega)).2.1
      rw [if_neg e, if_pos (by omega), g1, if_pos (by unfold zr; omega), if_pos (by omega)]
      exact hB
  · rw [z_ri (by omega), z_rn (by omega), z_rn (by omega), z_rn (by omega), z_rn (by omega), z_rn (by omega)]; exact h1
  · rw [z_rn (by omega), z_rn (by omega), z_rn (by omega), z_rn (by omega), z_rn (by omega), z_rn (by omega)]; exact h3 i i0 i1
  · have m1 : m < v_M D + 1 := m1
    by_cases e : m = x
    · obtain ⟨e0, e1, e2, e3, e4⟩ := v_ins_eq (V := D) (p := v_M D) (k := k) (f := f) (t := v_F D) (d := d)
      rw [e, hx, e0, e1, e2, e3, e4]
      refine ⟨?_, ?_, ?_, ?_, ?_⟩
      · rw [z_rn (by omega), z_rn (by omega), z_rn (by omega), z_rn (by omega), z_rn (by omega), z_re]
      · rw [z_rn (by omega), z_rn (by omega), z_rn (by omega), z_rn (by omega), z_re]
      · rw [z_rn (by omega), z_rn (by omega), z_rn (by omega), z_re]
      · rw [z_rn (by omega), z_rn (by omega), z_re]
      · rw [z_rn (by omega), z_re]
    · have e' : m < v_M D := by omega
      rw [v_ins_lo e', v_ins_lo e', v_ins_lo e', v_ins_lo e', v_ins_lo e']
      obtain ⟨g0, g1, g2, g3, g4⟩ := h4 m m0 e'
      refine ⟨?_, ?_, ?_, ?_, ?_⟩
      · rw [z_rn (by omega), z_rn (by omega), z_rn (by omega), z_rn (by omega), z_rn (by omega), z_ri e]; exact g0
      · rw [z_rn (by omega), z_rn (by omega), z_rn (by omega), z_rn (by omega), z_ri e, z_rn (by omega)]; exact g1
      · rw [z_rn (by omega), z_rn (by omega), z_rn (by omega), z_ri e, z_rn (by omega), z_rn (by omega)]; exact g2
      · rw [z_rn (by omega), z_rn (by omega), z_ri e, z_rn (by omega), z_rn (by omega), z_rn (by omega)]; exact g3
      · rw [z_rn (by omega), z_ri e, z_rn (by omega), z_rn (by omega), z_rn (by omega), z_rn (by omega)]; exact g4
theorem c_D_of {σ σ' : zS} {D : zV} (h : c_D σ D) (he : ∀ a, 40 ≤ a → a ≤ 46 → σ' a = σ a) : c_D σ' D := by
  unfold c_D at h ⊢
  rw [he 40 (by omega) (by omega), he 41 (by omega) (by omega), he 42 (by omega) (by omega), he 43 (by omega) (by omega), he 44 (by omega) (by omega), he 45 (by omega) (by omega), he 46 (by omega) (by omega)]
  exact h
theorem z_59 {σ : zS} {i v : Int} : ∀ a, a ≠ 59 → z_up σ 59 i v a = σ a := fun a h => by funext b; exact z_rn h
/-- the class at the sign a of n, in a stage, with what it has read -/
def c_P (σ : zS) (st wr : Int) (D : zV) : Prop := σ 59 1 = st ∧ σ 59 6 = wr ∧ c_D σ D
/-- the end of the text -/
theorem c_end {σ : zS} {st wr n : Int} {D : zV} {f : Nat} (hP : c_P σ st wr D) (hst : 0 ≤ st ∧ st ≤ 4) (hw : -1 ≤ wr ∧ wr ≤ 120) (hn : 0 ≤ n ∧ n ≤ 120) : f_X4_parse_l19 (f + 1) σ n n = some (if st = 0 then (if wr = -1 then -9 else wr) else n, σ) := by
  obtain ⟨h1, h6, hD⟩ := hP
  show f_X4_parse_b19 _ σ n n = _
  unfold f_X4_parse_b19 f_X4_parse_b49 f_X4_parse_b75
  rw [if_pos (by unfold zr; omega), if_pos (by omega), h1, h6, if_pos (by unfold zr; omega)]
  by_cases a : st = 0
  · rw [if_pos a, if_pos (by unfold zr; omega), if_pos a]
    by_cases b : wr = -1
    · rw [if_neg (by omega), if_pos b]
    · rw [if_pos b, if_neg b]
  · rw [if_neg a, if_neg a]
/-- a sign taken, or not -/
theorem c_ok {σ σ' : zS} {n a c : Int} {f : Nat} (h63 : σ 63 a = c) (ha : 0 ≤ a ∧ a < n) (hn : n ≤ 120) (ht : f_X4_takes σ c a = some (1, σ')) : f_X4_parse_l19 (f + 1) σ n a = f_X4_parse_l19 f σ' n (a + 1) := by
  show f_X4_parse_b19 _ σ n a = _
  unfold f_X4_parse_b19
  rw [if_pos (by unfold zr; omega), if_neg (by omega), if_pos (by unfold zr; omega), if_neg (by omega), if_pos (by omega), h63, ht, z_bd, if_pos (by decide), if_pos (by omega)]
theorem c_no {σ σ' : zS} {n a c : Int} {f : Nat} (h63 : σ 63 a = c) (ha : 0 ≤ a ∧ a < n) (hn : n ≤ 120) (ht : f_X4_takes σ c a = some (0, σ')) : f_X4_parse_l19 (f + 1) σ n a = some (a, σ') := by
  show f_X4_parse_b19 _ σ n a = _
  unfold f_X4_parse_b19
  rw [if_pos (by unfold zr; omega), if_neg (by omega), if_pos (by unfold zr; omega), if_neg (by omega), if_pos (by omega), h63, ht, z_bd, if_pos (by decide), if_neg (by omega)]
/-- a digit where frames stand -/
theorem c_takeFrame {σ : zS} {st wr a c : Int} {D : zV} (hP : c_P σ st wr D) (hst : st = 0 ∨ st = 4) (hc : z_dg c) (hF : 0 ≤ v_F D ∧ v_F D < 200) : ∃ σ', f_X4_takes σ c a = some (1, σ') ∧ c_P σ' st wr (v_push D (c - 48)) ∧ (∀ b, b ≠ 40 → b ≠ 41 → σ' b = σ b) := by
  obtain ⟨h1, h6, hD⟩ := hP
  have hcc := hc
  unfold z_dg at hcc
  have hd := c_isDigit (σ := σ) (c := c) (by unfold zr; omega)
  rw [if_pos hc] at hd
  obtain ⟨σ', t1, t2, t3⟩ := c_dframe (l := c - 48) hD hF
  have h59 : σ' 59 = σ 59 := t3 59 (by omega) (by omega)
  refine ⟨σ', ?_, ⟨by rw [h59]; exact h1, by rw [h59]; exact h6, t2⟩, t3⟩
  unfold f_X4_takes f_X4_takesOutside f_X4_takesInside
  rw [h1, if_pos (by unfold zr; omega)]
  rcases hst with rfl | rfl
  · rw [if_pos rfl, hd, z_bd, if_pos (by decide), if_neg (by omega), t1, z_bd, z_bd, if_pos (by omega)]
  · rw [if_neg (by omega), if_neg (by omega), if_neg (by omega), if_neg (by omega), hd, z_bd, if_pos (by decide), if_neg (by omega), t1, z_bd, z_bd, if_pos (by omega)]
/-- n digits of the text from a on, put to the draft -/
def d_dig (t : Int → Int) (a : Int) (D : zV) : Nat → zV
  | 0 => D
  | n + 1 => v_push (d_dig t a D n) (t (a + n) - 48)
theorem d_dig_F (t : Int → Int) (a : Int) (D : zV) : ∀ n : Nat, v_F (d_dig t a D n) = v_F D + n ∧ v_M (d_dig t a D n) = v_M D ∧ v_K (d_dig t a D n) = v_K D := by
  intro n
  induction n with
  | zero => exact ⟨by show v_F D = v_F D + 0; omega, rfl, rfl⟩
  | succ n ih =>
    refine ⟨?_, ih.2.1, ih.2.2⟩
    show v_F (d_dig t a D n) + 1 = _
    rw [ih.1]; omega
theorem d_dig_ok {t : Int → Int} {a wr : Int} {D : zV} (h : d_ok D wr a) : ∀ n : Nat, (∀ i : Nat, i < n → z_dg (t (a + i))) → d_ok (d_dig t a D n) wr (a + n) := by
  intro n
  induction n with
  | zero => intro _; exact d_le h (by omega)
  | succ n ih =>
    intro hd
    have := d_push (ih (fun i hi => hd i (by omega))) (l := t (a + n) - 48) (by have := hd n (by omega); unfold z_dg at this; omega)
    rw [show a + ((n + 1 : Nat) : Int) = a + n + 1 by omega]
    exact this
theorem c_digs {t : Int → Int} {n a st wr : Int} {D : zV} (hn : n ≤ 120) (ha : 0 ≤ a) (hst : st = 0 ∨ st = 4) : ∀ (k : Nat) (f : Nat) (σ : zS), (∀ i : Nat, i < k → z_dg (t (a + i))) → a + k ≤ n → c_T σ n t → c_P σ st wr D → d_ok D wr a → ∃ σ', f_X4_parse_l19 (f + k) σ n a = f_X4_parse_l19 f σ' n (a + k) ∧ c_P σ' st wr (d_dig t a D k) ∧ (∀ b, b ≠ 40 → b ≠ 41 → σ' b = σ b) := by
  intro k
  induction k with
  | zero =>
    intro f σ hd hk hT hP hD
    exact ⟨σ, by rw [show a + ((0 : Nat) : Int) = a by omega]; rfl, hP, fun _ _ _ => rfl⟩
  | succ k ih =>
    intro f σ hd hk hT hP hD
    obtain ⟨σ1, u1, u2, u3⟩ := ih (f + 1) σ (fun i hi => hd i (by omega)) (by omega) hT hP hD
    have hF := d_dig_F t a D k
    have h1 := hD.1
    obtain ⟨σ2, w1, w2, w3⟩ := c_takeFrame (a := a + k) (c := t (a + k)) u2 hst (hd k (by omega)) (by omega)
    have h63 : σ1 63 (a + k) = t (a + k) := by rw [u3 63 (by omega) (by omega)]; exact hT.2 _ (by omega) (by omega)
    refine ⟨σ2, ?_, w2, fun b b0 b1 => (w3 b b0 b1).trans (u3 b b0 b1)⟩
    rw [show f + (k + 1) = f + 1 + k by omega, u1, c_ok h63 (by omega) hn w1, show a + ((k + 1 : Nat) : Int) = a + k + 1 by omega]
