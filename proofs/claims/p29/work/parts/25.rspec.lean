/-! THE RESULT: what it is, and what holds of it -/
/-- 1 for a frame in a noise mark among the first marks -/
def q_nz (V : zV) (f : Int) : Nat → Int
  | 0 => 0
  | m + 1 => if v_K V 0 m = 3 ∧ v_K V 1 m ≤ f ∧ f < v_K V 2 m then 1 else q_nz V f m
theorem q_nz_ok (V : zV) (f : Int) : ∀ m, 0 ≤ q_nz V f m ∧ q_nz V f m ≤ 1 := by
  intro m
  induction m with
  | zero => unfold q_nz; omega
  | succ m ih => unfold q_nz; split <;> omega
/-- how a frame of the recording is heard -/
def q_hl (V : zV) (f : Int) : Int := if q_nz V f (v_M V).toNat = 0 then v_L V f else (v_L V f).tdiv 2
theorem q_hl_ok {V : zV} (h : v_ok V) {f : Int} (h0 : 0 ≤ f) (h1 : f < v_F V) : 0 ≤ q_hl V f ∧ q_hl V f ≤ 9 := by
  have h2 := h.2.2.1 f h0 h1
  unfold q_hl
  split
  · exact h2
  · rw [q_tdiv h2.1]; omega
-- the result: how many frames, their sources, their levels
abbrev zP : Type := Int × (Int → Int) × (Int → Int)
def q_add (r : zP) (s l : Int) : zP := (r.1 + 1, fun i => if i = r.1 then s else r.2.1 i, fun i => if i = r.1 then l else r.2.2 i)
def q_rec (V : zV) (r : zP) (a : Int) : Nat → zP
  | 0 => r
  | n + 1 => q_add (q_rec V r a n) (a + n) (q_hl V (a + n))
-- the room sound: how many frames, and which
abbrev zM : Type := Int × (Int → Int)
def q_rpush (R : zM) (f : Int) : zM := (R.1 + 1, fun i => if i = R.1 then f else R.2 i)
def q_rm1 (R : zM) (a : Int) : Nat → zM
  | 0 => R
  | n + 1 => q_rpush (q_rm1 R a n) (a + n)
def q_rm (V : zV) : Nat → zM
  | 0 => (0, fun _ => 0)
  | m + 1 => if v_K V 0 m = 2 then q_rm1 (q_rm V m) (v_K V 1 m) (v_K V 2 m - v_K V 1 m).toNat else q_rm V m
/-- the room sound up to the frame b -/
def q_rok (V : zV) (R : zM) (b : Int) : Prop := (0 ≤ R.1 ∧ R.1 ≤ b) ∧ ∀ i, 0 ≤ i → i < R.1 → 0 ≤ R.2 i ∧ R.2 i < v_F V
theorem q_rm1_ok {V : zV} {R : zM} {a : Int} (h : q_rok V R a) (h0 : 0 ≤ a) : ∀ n : Nat, a + n ≤ v_F V → q_rok V (q_rm1 R a n) (a + n) := by
  intro n
  induction n with
  | zero => intro _; simpa [q_rm1] using h
  | succ n ih =>
    intro h1
    obtain ⟨g1, g2⟩ := ih (by omega)
    unfold q_rm1 q_rpush
    refine ⟨by show 0 ≤ (q_rm1 R a n).1 + 1 ∧ (q_rm1 R a n).1 + 1 ≤ _; omega, fun i i0 i1 => ?_⟩
    have i1 : i < (q_rm1 R a n).1 + 1 := i1
    show 0 ≤ (if i = (q_rm1 R a n).1 then _ else _) ∧ (if i = (q_rm1 R a n).1 then _ else _) < _
    by_cases h : i = (q_rm1 R a n).1
    · rw [if_pos h]; omega
    · rw [if_neg h]; exact g2 i i0 (by omega)
theorem q_rok_le {V : zV} {R : zM} {a b : Int} (h : q_rok V R a) (hab : a ≤ b) : q_rok V R b := ⟨by have := h.1; omega, h.2⟩
theorem q_rm_ok {V : zV} (h : v_ok V) : ∀ m : Nat, (m : Int) ≤ v_M V → q_rok V (q_rm V m) (if (m : Int) < v_M V then v_K V 1 m else v_F V) := by
  intro m
  induction m with
  | zero =>
    intro _
    refine ⟨⟨Int.le_refl _, ?_⟩, fun i h0 h1 => by have h1 : i < 0 := h1; omega⟩
    show (0 : Int) ≤ _
    have hF := h.1
    split
    · rename_i h1; have := (h.2.2.2.1 _ (by omega) h1).2.1; omega
    · omega
  | succ m ih =>
    intro h1
    have ih := ih (by omega)
    rw [if_pos (by omega)] at ih
    have hm := (h.2.2.2.1 m (by omega) (by omega)).2.1
    have hend : v_K V 2 m ≤ (if ((m + 1 : Nat) : Int) < v_M V then v_K V 1 ((m + 1 : Nat) : Int) else v_F V) := by
      split
      · rename_i h2
        have := h.2.2.2.2.1 m (by omega) (by omega)
        rw [show ((m + 1 : Nat) : Int) = m + 1 by omega]; exact this
      · omega
    unfold q_rm
    split
    · have := q_rm1_ok ih hm.1 (v_K V 2 m - v_K V 1 m).toNat (by omega)
      rw [show v_K V 1 m + ((v_K V 2 m - v_K V 1 m).toNat : Int) = v_K V 2 m by omega] at this
      exact q_rok_le this hend
    · exact q_rok_le ih (by omega)
abbrev q_R (V : zV) : zM := q_rm V (v_M V).toNat
theorem q_R_ok {V : zV} (h : v_ok V) : q_rok V (q_R V) (v_F V) := by
  have hM := h.2.1
  have := q_rm_ok h (v_M V).toNat (by omega)
  rw [if_neg (by omega)] at this
  exact this
/-- a pause's frames, the t-th of the room sound first -/
def q_ps (V : zV) (t : Int) (r : zP) : Nat → zP
  | 0 => r
  | n + 1 => q_add (q_ps V t r n) (if (q_R V).1 = 0 then 2000 else 1000 + (q_R V).2 ((t + n) % (q_R V).1)) (if (q_R V).1 = 0 then 0 else v_L V ((q_R V).2 ((t + n) % (q_R V).1)))
/-- the result before the i-th cut, how many pause frames there were, where the recording goes on -/
def q_pl (V : zV) (s : zL) : Nat → zP × Int × Int
  | 0 => ((0, fun _ => 0, fun _ => 0), 0, 0)
  | i + 1 => (q_ps V (q_pl V s i).2.1 (q_rec V (q_pl V s i).1 (q_pl V s i).2.2 (s.2 0 i - (q_pl V s i).2.2).toNat) (s.2 2 i).toNat, (q_pl V s i).2.1 + s.2 2 i, s.2 1 i)
def q_res (V : zV) (s : zL) : zP := q_rec V (q_pl V s s.1.toNat).1 (q_pl V s s.1.toNat).2.2 (v_F V - (q_pl V s s.1.toNat).2.2).toNat
/-- the result up to the frame b of the recording -/
def q_pok (V : zV) (r : zP) (b : Int) : Prop := (0 ≤ r.1 ∧ r.1 ≤ b) ∧ (∀ i, 0 ≤ i → i < r.1 → (0 ≤ r.2.2 i ∧ r.2.2 i ≤ 9) ∧ (0 ≤ r.2.1 i ∧ r.2.1 i ≤ 2000 ∧ (r.2.1 i < b ∨ 1000 ≤ r.2.1 i))) ∧ (∀ i k, 0 ≤ i → i < k → k < r.1 → r.2.1 i < 1000 → r.2.1 i ≠ r.2.1 k)
theorem q_pok_le {V : zV} {r : zP} {a b : Int} (h : q_pok V r a) (hab : a ≤ b) : q_pok V r b := by
  obtain ⟨h1, h2, h3⟩ := h
  refine ⟨by omega, fun i i0 i1 => ?_, h3⟩
  have := h2 i i0 i1
  omega
theorem q_pok_rec1 {V : zV} {r : zP} {a l : Int} (h : q_pok V r a) (ha : 0 ≤ a ∧ a < 1000) (hl : 0 ≤ l ∧ l ≤ 9) : q_pok V (q_add r a l) (a + 1) := by
  obtain ⟨h1, h2, h3⟩ := h
  refine ⟨by show 0 ≤ r.1 + 1 ∧ r.1 + 1 ≤ a + 1; omega, fun i i0 i1 => ?_, fun i k i0 ik k1 hi => ?_⟩
  · have i1 : i < r.1 + 1 := i1
    simp only [q_add]
    by_cases e : i = r.1
    · rw [if_pos e, if_pos e]; omega
    · rw [if_neg e, if_neg e]; have := h2 i i0 (by omega); omega
  · have k1 : k < r.1 + 1 := k1
    simp only [q_add] at hi ⊢
    rw [if_neg (show ¬ i = r.1 by omega)] at hi ⊢
    by_cases e : k = r.1
    · rw [if_pos e]; have := (h2 i i0 (by omega)).2; omega
    · rw [if_neg e]; exact h3 i k i0 ik (by omega) hi
/-- a result with n more frames that it may take -/
def q_pok2 (V : zV) (r : zP) (b n : Int) : Prop := q_pok V r b ∧ r.1 + n ≤ b
theorem q_pok_ps1 {V : zV} {r : zP} {b n s l : Int} (h : q_pok2 V r b (n + 1)) (hs : 1000 ≤ s ∧ s ≤ 2000) (hn : 0 ≤ n) (hl : 0 ≤ l ∧ l ≤ 9) : q_pok2 V (q_add r s l) b n := by
  obtain ⟨⟨h1, h2, h3⟩, h4⟩ := h
  refine ⟨⟨by show 0 ≤ r.1 + 1 ∧ r.1 + 1 ≤ b; omega, fun i i0 i1 => ?_, fun i k i0 ik k1 hi => ?_⟩, by show r.1 + 1 + n ≤ b; omega⟩
  · have i1 : i < r.1 + 1 := i1
    simp only [q_add]
    by_cases e : i = r.1
    · rw [if_pos e, if_pos e]; omega
    · rw [if_neg e, if_neg e]; exact h2 i i0 (by omega)
  · have k1 : k < r.1 + 1 := k1
    simp only [q_add] at hi ⊢
    rw [if_neg (show ¬ i = r.1 by omega)] at hi ⊢
    by_cases e : k = r.1
    · rw [if_pos e]; omega
    · rw [if_neg e]; exact h3 i k i0 ik (by omega) hi
theorem q_rec_ok {V : zV} (h : v_ok V) {r : zP} {a : Int} (hr : q_pok V r a) (h0 : 0 ≤ a) : ∀ n : Nat, a + n ≤ v_F V → q_pok V (q_rec V r a n) (a + n) := by
  intro n
  have hF := h.1
  induction n with
  | zero => intro _; simpa [q_rec] using hr
  | succ n ih =>
    intro h1
    unfold q_rec
    rw [show a + ((n + 1 : Nat) : Int) = a + n + 1 by omega]
    exact q_pok_rec1 (ih (by omega)) (by omega) (q_hl_ok h (by omega) (by omega))
theorem q_rec_n (V : zV) (r : zP) (a : Int) : ∀ n : Nat, (q_rec V r a n).1 = r.1 + n := by
  intro n
  induction n with
  | zero => simp [q_rec]
  | succ n ih => show (q_rec V r a n).1 + 1 = _; rw [ih]; omega
/-- a frame of the room sound -/
theorem q_rf {V : zV} (h : v_ok V) {t : Int} (h0 : ¬ (q_R V).1 = 0) : (0 ≤ t % (q_R V).1 ∧ t % (q_R V).1 < (q_R V).1) ∧ (0 ≤ (q_R V).2 (t % (q_R V).1) ∧ (q_R V).2 (t % (q_R V).1) < v_F V) := by
  obtain ⟨h1, h2⟩ := q_R_ok h
  have a := Int.emod_nonneg t (b := (q_R V).1) h0
  have b := Int.emod_lt_of_pos t (b := (q_R V).1) (by omega)
  exact ⟨⟨a, b⟩, h2 _ a b⟩
theorem q_ps_ok {V : zV} (h : v_ok V) {t b : Int} {r : zP} : ∀ (n : Nat) (k : Int), 0 ≤ k → q_pok2 V r b (n + k) → q_pok2 V (q_ps V t r n) b k := by
  intro n
  have hF := h.1
  induction n with
  | zero => intro k hk hr; have e : ((0 : Nat) : Int) + k = k := by omega
            rw [e] at hr; exact hr
  | succ n ih =>
    intro k hk hr
    have ih := ih (k + 1) (by omega) (by rw [show (n : Int) + (k + 1) = ((n + 1 : Nat) : Int) + k by omega]; exact hr)
    unfold q_ps
    by_cases a : (q_R V).1 = 0
    · rw [if_pos a, if_pos a]
      exact q_pok_ps1 ih (by omega) hk (by omega)
    · rw [if_neg a, if_neg a]
      have hf := (q_rf h (t := t + n) a).2
      exact q_pok_ps1 ih (by omega) hk (h.2.2.1 _ hf.1 hf.2)
theorem q_pl_ok {V : zV} (h : v_ok V) {s : zL} {k : Int} (hs : q_cok V s k) : ∀ i : Nat, (i : Int) ≤ s.1 → q_pok V (q_pl V s i).1 (q_pl V s i).2.2 ∧ 0 ≤ (q_pl V s i).2.1 ∧ 0 ≤ (q_pl V s i).2.2 ∧ (q_pl V s i).2.2 ≤ v_F V ∧ ((i : Int) < s.1 → (q_pl V s i).2.2 ≤ s.2 0 i) ∧ (q_pl V s i).2.1 ≤ 50 * i := by
  intro i
  have hF := h.1
  induction i with
  | zero =>
    intro _
    refine ⟨⟨⟨Int.le_refl _, Int.le_refl _⟩, fun i h0 h1 => by have h1 : i < 0 := h1; omega, fun i k h0 h1 h2 => by have h2 : k < 0 := h2; omega⟩, Int.le_refl _, Int.le_refl _, hF.1, fun h1 => ?_, by show (0 : Int) ≤ _; omega⟩
    exact (hs.2.1 0 (by omega) h1).1.1
  | succ i ih =>
    intro h1
    obtain ⟨g1, g2, g3, g4, g5, g6⟩ := ih (by omega)
    have g5 := g5 (by omega)
    have c := hs.2.1 i (by omega) (by omega)
    have r1 := q_rec_ok h g1 g3 (s.2 0 i - (q_pl V s i).2.2).toNat (by omega)
    rw [show (q_pl V s i).2.2 + ((s.2 0 i - (q_pl V s i).2.2).toNat : Int) = s.2 0 i by omega] at r1
    have r2 := q_ps_ok h (t := (q_pl V s i).2.1) (b := s.2 1 i) (r := q_rec V (q_pl V s i).1 (q_pl V s i).2.2 (s.2 0 i - (q_pl V s i).2.2).toNat) (s.2 2 i).toNat 0 (by omega) ⟨q_pok_le r1 (by omega), by have := r1.1; omega⟩
    unfold q_pl
    refine ⟨r2.1, by show 0 ≤ (q_pl V s i).2.1 + s.2 2 i; omega, by show 0 ≤ s.2 1 i; omega, by show s.2 1 i ≤ _; omega, fun h2 => ?_, by show (q_pl V s i).2.1 + s.2 2 i ≤ _; omega⟩
    have := hs.2.2.1 i (by omega) (by omega)
    rw [show ((i + 1 : Nat) : Int) = i + 1 by omega]
    exact this.1
theorem q_res_ok {V : zV} (h : v_ok V) {s : zL} {k : Int} (hs : q_cok V s k) : q_pok V (q_res V s) (v_F V) := by
  obtain ⟨g1, g2, g3, g4, g5, g6⟩ := q_pl_ok h hs s.1.toNat (by have := hs.1; omega)
  have := q_rec_ok h g1 g3 (v_F V - (q_pl V s s.1.toNat).2.2).toNat (by omega)
  rw [show (q_pl V s s.1.toNat).2.2 + ((v_F V - (q_pl V s s.1.toNat).2.2).toNat : Int) = v_F V by omega] at this
  exact this
theorem q_ps_ok_step {V : zV} (h : v_ok V) {t b : Int} {r : zP} {i n : Nat} (hk : q_pok2 V (q_ps V t r i) b ((n + 1 : Nat) : Int)) : q_pok2 V (q_ps V t r (i + 1)) b n := by
  have hF := h.1
  have hk : q_pok2 V (q_ps V t r i) b ((n : Int) + 1) := by rw [show (n : Int) + 1 = ((n + 1 : Nat) : Int) by omega]; exact hk
  unfold q_ps
  by_cases a : (q_R V).1 = 0
  · rw [if_pos a, if_pos a]
    exact q_pok_ps1 hk (by omega) (by omega) (by omega)
  · rw [if_neg a, if_neg a]
    have hf := (q_rf h (t := t + i) a).2
    exact q_pok_ps1 hk (by omega) (by omega) (h.2.2.1 _ hf.1 hf.2)
