/-! WHAT HOLDS OF THE RESULT -/
theorem q_sum_ext {f g : Int → Int} : ∀ n : Nat, (∀ i : Int, 0 ≤ i → i < n → f i = g i) → q_sum f n = q_sum g n := by
  intro n
  induction n with
  | zero => intro _; rfl
  | succ n ih =>
    intro h
    show q_sum f n + f n = q_sum g n + g n
    rw [ih (fun i i0 i1 => h i i0 (by omega)), h n (by omega) (by omega)]
theorem q_sum_ones {f : Int → Int} (n : Nat) : ∀ m : Nat, (∀ i : Int, n ≤ i → i < n + m → f i = 1) → q_sum f (n + m) = q_sum f n + m := by
  intro m
  induction m with
  | zero => intro _; simp
  | succ m ih =>
    intro h
    show q_sum f (n + m) + f ((n + m : Nat) : Int) = _
    rw [ih (fun i i0 i1 => h i i0 (by omega)), h _ (by omega) (by omega)]
    omega
/-- a frame of the recording is in the result -/
def q_in (r : zP) (f : Int) : Prop := ∃ i, 0 ≤ i ∧ i < r.1 ∧ r.2.1 i = f
/-- 1 for a frame that is not -/
noncomputable def q_ab (r : zP) (f : Int) : Int := @ite Int (q_in r f) (Classical.propDecidable _) 0 1
theorem q_ab_in {r : zP} {f : Int} (h : q_in r f) : q_ab r f = 0 := if_pos h
theorem q_ab_out {r : zP} {f : Int} (h : ¬ q_in r f) : q_ab r f = 1 := if_neg h
theorem q_in_add {r : zP} {s l f : Int} (h0 : 0 ≤ r.1) : q_in (q_add r s l) f ↔ q_in r f ∨ s = f := by
  constructor
  · rintro ⟨i, i0, i1, h⟩
    have i1 : i < r.1 + 1 := i1
    have h : (if i = r.1 then s else r.2.1 i) = f := h
    by_cases e : i = r.1
    · rw [if_pos e] at h; exact Or.inr h
    · rw [if_neg e] at h; exact Or.inl ⟨i, i0, by omega, h⟩
  · rintro (⟨i, i0, i1, h⟩ | h)
    · refine ⟨i, i0, by show i < r.1 + 1; omega, ?_⟩
      show (if i = r.1 then s else r.2.1 i) = f
      rw [if_neg (by omega)]; exact h
    · refine ⟨r.1, h0, by show r.1 < r.1 + 1; omega, ?_⟩
      show (if r.1 = r.1 then s else r.2.1 r.1) = f
      rw [if_pos rfl]; exact h
/-- where a frame comes from, how it is heard -/
def q_src (V : zV) (s l : Int) : Prop := (s < 1000 → (0 ≤ s ∧ s < v_F V) ∧ l = q_hl V s) ∧ (1000 ≤ s → (s = 2000 ∧ l = 0) ∨ ((0 ≤ s - 1000 ∧ s - 1000 < v_F V) ∧ l = v_L V (s - 1000)))
/-- the result up to the frame b, with P frames of pauses, and C frames that are cut -/
def q_inv (V : zV) (r : zP) (b P C : Int) : Prop := (0 ≤ r.1 ∧ 0 ≤ b ∧ b ≤ v_F V) ∧ (∀ i, 0 ≤ i → i < r.1 → q_src V (r.2.1 i) (r.2.2 i)) ∧ (∀ i, 0 ≤ i → i < r.1 → r.2.1 i < 1000 → r.2.1 i < b) ∧ (∀ i k, 0 ≤ i → i < k → k < r.1 → r.2.1 i < 1000 → r.2.1 k < 1000 → r.2.1 i < r.2.1 k) ∧ q_sum (fun j => if r.2.1 j < 1000 then 0 else 1) r.1.toNat = P ∧ q_sum (q_ab r) b.toNat = C
theorem q_add_paused {r : zP} {s l : Int} (h0 : 0 ≤ r.1) : q_sum (fun j => if (q_add r s l).2.1 j < 1000 then 0 else 1) (q_add r s l).1.toNat = q_sum (fun j => if r.2.1 j < 1000 then 0 else 1) r.1.toNat + (if s < 1000 then 0 else 1) := by
  have e1 : (q_add r s l).1.toNat = r.1.toNat + 1 := by show (r.1 + 1).toNat = _; omega
  rw [e1]
  show q_sum _ r.1.toNat + (if (q_add r s l).2.1 (r.1.toNat : Int) < 1000 then 0 else 1) = _
  have e2 : (q_add r s l).2.1 (r.1.toNat : Int) = s := by show (if (r.1.toNat : Int) = r.1 then s else _) = s; rw [if_pos (by omega)]
  rw [e2]
  congr 1
  refine q_sum_ext _ (fun i i0 i1 => ?_)
  have e3 : (q_add r s l).2.1 i = r.2.1 i := by show (if i = r.1 then s else _) = _; rw [if_neg (by omega)]
  show (if (q_add r s l).2.1 i < 1000 then (0 : Int) else 1) = _
  rw [e3]
theorem q_inv_rec1 {V : zV} (hV : v_ok V) {r : zP} {b P C : Int} (h : q_inv V r b P C) (hb : b < v_F V) : q_inv V (q_add r b (q_hl V b)) (b + 1) P C := by
  have hF := hV.1
  obtain ⟨h0, h1, h2, h3, h4, h5⟩ := h
  refine ⟨⟨by show 0 ≤ r.1 + 1; omega, by omega, by omega⟩, fun i i0 i1 => ?_, fun i i0 i1 => ?_, fun i k i0 ik k1 => ?_, ?_, ?_⟩
  · have i1 : i < r.1 + 1 := i1
    by_cases e : i = r.1
    · simp only [q_add, if_pos e]
      exact ⟨fun _ => ⟨by omega, rfl⟩, fun _ => by omega⟩
    · simp only [q_add, if_neg e]
      exact h1 i i0 (by omega)
  · have i1 : i < r.1 + 1 := i1
    by_cases e : i = r.1
    · simp only [q_add, if_pos e]; intro _; omega
    · simp only [q_add, if_neg e]
      intro h; have := h2 i i0 (by omega) h; omega
  · have k1 : k < r.1 + 1 := k1
    have ei : ¬ i = r.1 := by omega
    by_cases e : k = r.1
    · simp only [q_add, if_pos e, if_neg ei]
      intro h _; exact h2 i i0 (by omega) h
    · simp only [q_add, if_neg e, if_neg ei]
      exact h3 i k i0 ik (by omega)
  · rw [q_add_paused h0.1, h4, if_pos (by omega)]; omega
  · have e1 : (b + 1).toNat = b.toNat + 1 := by omega
    rw [e1]
    show q_sum _ b.toNat + q_ab (q_add r b (q_hl V b)) (b.toNat : Int) = C
    have e2 : q_ab (q_add r b (q_hl V b)) (b.toNat : Int) = 0 := q_ab_in ((q_in_add h0.1).mpr (Or.inr (by omega)))
    rw [e2, ← h5]
    have e3 : q_sum (q_ab (q_add r b (q_hl V b))) b.toNat = q_sum (q_ab r) b.toNat := by
      refine q_sum_ext _ (fun i i0 i1 => ?_)
      by_cases g : q_in r i
      · rw [q_ab_in g, q_ab_in ((q_in_add h0.1).mpr (Or.inl g))]
      · rw [q_ab_out g, q_ab_out (fun h => by
          rcases (q_in_add h0.1).mp h with h | h
          · exact g h
          · omega)]
    rw [e3]; omega
theorem q_inv_ps1 {V : zV} (hV : v_ok V) {r : zP} {b P C s l : Int} (h : q_inv V r b P C) (hs : 1000 ≤ s) (hsl : q_src V s l) : q_inv V (q_add r s l) b (P + 1) C := by
  have hF := hV.1
  obtain ⟨h0, h1, h2, h3, h4, h5⟩ := h
  refine ⟨⟨by show 0 ≤ r.1 + 1; omega, h0.2⟩, fun i i0 i1 => ?_, fun i i0 i1 => ?_, fun i k i0 ik k1 => ?_, ?_, ?_⟩
  · have i1 : i < r.1 + 1 := i1
    by_cases e : i = r.1
    · simp only [q_add, if_pos e]; exact hsl
    · simp only [q_add, if_neg e]
      exact h1 i i0 (by omega)
  · have i1 : i < r.1 + 1 := i1
    by_cases e : i = r.1
    · simp only [q_add, if_pos e]; intro _; omega
    · simp only [q_add, if_neg e]
      exact h2 i i0 (by omega)
  · have k1 : k < r.1 + 1 := k1
    have ei : ¬ i = r.1 := by omega
    by_cases e : k = r.1
    · simp only [q_add, if_pos e, if_neg ei]
      intro _ _; omega
    · simp only [q_add, if_neg e, if_neg ei]
      exact h3 i k i0 ik (by omega)
  · rw [q_add_paused h0.1, h4, if_neg (by omega)]
  · rw [← h5]
    refine q_sum_ext _ (fun i i0 i1 => ?_)
    by_cases g : q_in r i
    · rw [q_ab_in g, q_ab_in ((q_in_add h0.1).mpr (Or.inl g))]
    · rw [q_ab_out g, q_ab_out (fun h => by
        rcases (q_in_add h0.1).mp h with h | h
        · exact g h
        · omega)]
theorem q_inv_jump {V : zV} (hV : v_ok V) {r : zP} {b P C e : Int} (h : q_inv V r b P C) (hb : b ≤ e) (he : e ≤ v_F V) : q_inv V r e P (C + (e - b)) := by
  have hF := hV.1
  obtain ⟨h0, h1, h2, h3, h4, h5⟩ := h
  refine ⟨⟨h0.1, by omega, he⟩, h1, fun i i0 i1 h => by have := h2 i i0 i1 h; omega, h3, h4, ?_⟩
  have e1 : e.toNat = b.toNat + (e - b).toNat := by omega
  rw [e1, q_sum_ones b.toNat (e - b).toNat (fun i i0 i1 => q_ab_out (fun hin => ?_)), h5]
  · omega
  · obtain ⟨j, j0, j1, hj⟩ := hin
    have := h2 j j0 j1 (by omega)
    omega
theorem q_inv_rec {V : zV} (hV : v_ok V) {r : zP} {b P C : Int} (h : q_inv V r b P C) : ∀ n : Nat, b + n ≤ v_F V → q_inv V (q_rec V r b n) (b + n) P C := by
  intro n
  induction n with
  | zero => intro _; simpa [q_rec] using h
  | succ n ih =>
    intro h1
    unfold q_rec
    rw [show b + ((n + 1 : Nat) : Int) = b + n + 1 by omega]
    exact q_inv_rec1 hV (ih (by omega)) (by omega)
theorem q_inv_ps {V : zV} (hV : v_ok V) {r : zP} {b P C t : Int} (h : q_inv V r b P C) : ∀ n : Nat, q_inv V (q_ps V t r n) b (P + n) C := by
  intro n
  have hF := hV.1
  induction n with
  | zero => simpa [q_ps] using h
  | succ n ih =>
    unfold q_ps
    rw [show P + ((n + 1 : Nat) : Int) = P + n + 1 by omega]
    by_cases a : (q_R V).1 = 0
    · rw [if_pos a, if_pos a]
      exact q_inv_ps1 hV ih (by omega) ⟨fun h => by omega, fun _ => Or.inl ⟨rfl, rfl⟩⟩
    · rw [if_neg a, if_neg a]
      have hf := (q_rf hV (t := t + n) a).2
      exact q_inv_ps1 hV ih (by omega) ⟨fun h => by omega, fun _ => Or.inr ⟨by omega, by rw [show 1000 + (q_R V).2 ((t + n) % (q_R V).1) - 1000 = (q_R V).2 ((t + n) % (q_R V).1) by omega]⟩⟩
theorem q_inv_pl {V : zV} (hV : v_ok V) {s : zL} {k : Int} (hs : q_cok V s k) : ∀ i : Nat, (i : Int) ≤ s.1 → q_inv V (q_pl V s i).1 (q_pl V s i).2.2 (q_sum (q_w s 1) i) (q_sum (q_w s 0) i) := by
  intro i
  have hF := hV.1
  induction i with
  | zero =>
    intro _
    refine ⟨⟨Int.le_refl _, Int.le_refl _, hF.1⟩, fun i i0 i1 => by have i1 : i < 0 := i1; omega, fun i i0 i1 => by have i1 : i < 0 := i1; omega, fun i k i0 ik k1 => by have k1 : k < 0 := k1; omega, rfl, rfl⟩
  | succ i ih =>
    intro hi
    have ih := ih (by omega)
    have g := (q_pl_ok hV hs i (by omega)).2.2.2.2.1 (by omega)
    have c := hs.2.1 i (by omega) (by omega)
    have r1 := q_inv_rec hV ih (s.2 0 i - (q_pl V s i).2.2).toNat (by omega)
    rw [show (q_pl V s i).2.2 + ((s.2 0 i - (q_pl V s i).2.2).toNat : Int) = s.2 0 i by omega] at r1
    have r2 := q_inv_ps hV (t := (q_pl V s i).2.1) r1 (s.2 2 i).toNat
    have r3 := q_inv_jump hV r2 (e := s.2 1 i) (by omega) (by omega)
    have e3 : q_sum (q_w s 0) (i + 1) = q_sum (q_w s 0) i + (s.2 1 i - s.2 0 i) := rfl
    have e4 : q_sum (q_w s 1) (i + 1) = q_sum (q_w s 1) i + s.2 2 i := rfl
    rw [e3, e4, show q_sum (q_w s 1) i + s.2 2 i = q_sum (q_w s 1) i + ((s.2 2 i).toNat : Int) by omega]
    exact r3
theorem q_invP {V : zV} (hV : v_ok V) : q_inv V (q_P V) (v_F V) (q_sum (q_w (q_C V) 1) (q_C V).1.toNat) (q_sum (q_w (q_C V) 0) (q_C V).1.toNat) := by
  have hk : q_cok V (q_C V) (v_M V) := q_kok hV _ _
  have hn := hk.1
  have g := q_pl_ok hV hk (q_C V).1.toNat (by omega)
  have r0 := q_inv_pl hV hk (q_C V).1.toNat (by omega)
  have r1 := q_inv_rec hV r0 (v_F V - (q_pl V (q_C V) (q_C V).1.toNat).2.2).toNat (by omega)
  rw [show (q_pl V (q_C V) (q_C V).1.toNat).2.2 + ((v_F V - (q_pl V (q_C V) (q_C V).1.toNat).2.2).toNat : Int) = v_F V by omega] at r1
  exact r1
/-- a frame is found at its place -/
theorem q_wh_at {V : zV} {r : zP} {b : Int} (hr : q_pok V r b) {x : Int} (x1 : x < r.1) (hx : r.2.1 x < 1000) : ∀ (n : Nat) (i : Int), 0 ≤ i → i ≤ x → x < i + n → q_wh r (r.2.1 x) n i = x := by
  intro n
  induction n with
  | zero => intro i i0 h1 h2; omega
  | succ n ih =>
    intro i i0 h1 h2
    unfold q_wh
    by_cases e : i = x
    · rw [e, if_pos rfl]
    · have h3 : ¬ r.2.1 i = r.2.1 x := fun h => hr.2.2 i x i0 (by omega) x1 (by omega) h
      rw [if_neg h3]
      exact ih (i + 1) (by omega) (by omega) (by omega)
theorem q_wh_ab (r : zP) (f : Int) (h0 : 0 ≤ r.1) : (q_wh r f r.1.toNat 0 < 0 ∧ q_ab r f = 1) ∨ (0 ≤ q_wh r f r.1.toNat 0 ∧ q_ab r f = 0) := by
  have key : ∀ (n : Nat) (i : Int), 0 ≤ i → (q_wh r f n i = -9 ∧ ∀ k, i ≤ k → k < i + n → r.2.1 k ≠ f) ∨ ((i ≤ q_wh r f n i ∧ q_wh r f n i < i + n) ∧ r.2.1 (q_wh r f n i) = f) := by
    intro n
    induction n with
    | zero => intro i i0; exact Or.inl ⟨rfl, fun k h1 h2 => by omega⟩
    | succ n ih =>
      intro i i0
      unfold q_wh
      by_cases e : r.2.1 i = f
      · rw [if_pos e]; exact Or.inr ⟨by omega, e⟩
      · rw [if_neg e]
        rcases ih (i + 1) (by omega) with ⟨h1, h2⟩ | ⟨h1, h2⟩
        · exact Or.inl ⟨h1, fun k k1 k2 => by
            by_cases g : k = i
            · rw [g]; exact e
            · exact h2 k (by omega) (by omega)⟩
        · exact Or.inr ⟨by omega, h2⟩
  rcases key r.1.toNat 0 (by omega) with ⟨h1, h2⟩ | ⟨h1, h2⟩
  · refine Or.inl ⟨by omega, q_ab_out (fun h => ?_)⟩
    obtain ⟨i, i0, i1, hi⟩ := h
    exact h2 i i0 (by omega) hi
  · exact Or.inr ⟨h1.1, q_ab_in ⟨_, h1.1, by omega, h2⟩⟩
theorem q_wh_range (r : zP) (f : Int) : ∀ (n : Nat) (i : Int), 0 ≤ i → -9 ≤ q_wh r f n i ∧ q_wh r f n i ≤ i + n := by
  intro n
  induction n with
  | zero => intro i h; unfold q_wh; omega
  | succ n ih =>
    intro i h
    unfold q_wh
    have := ih (i + 1) (by omega)
    split <;> omega
/-- how a frame of the recording is heard: as it is, or halved -/
theorem q_hl_le {V : zV} (h : v_ok V) {f : Int} (h0 : 0 ≤ f) (h1 : f < v_F V) : q_hl V f ≤ v_L V f ∧ (v_L V f).tdiv 2 ≤ q_hl V f := by
  have h2 := h.2.2.1 f h0 h1
  have e : (v_L V f).tdiv 2 = v_L V f / 2 := q_tdiv h2.1
  unfold q_hl
  split
  · rw [e]; omega
  · rw [e]; omega
