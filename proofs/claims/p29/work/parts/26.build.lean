/-! THE CLASS' RESULT -/
/-- the class' room sound and noise, of the marks before m -/
def r_G (σ : zS) (R : zM) (nz : Int → Int) : Prop := σ 54 4 = R.1 ∧ (∀ i, 0 ≤ i → i < R.1 → σ 57 i = R.2 i) ∧ ∀ f, 0 ≤ f → f < 200 → σ 58 f = nz f
theorem c_gFrame {σ : zS} {R : zM} {nz : Int → Int} {x k : Int} (hG : r_G σ R nz) (hx : 0 ≤ x ∧ x < 200) (hk : 0 ≤ k ∧ k ≤ 3) (hR : 0 ≤ R.1 ∧ R.1 < 200) : ∃ τ, f_X3_gatherFrame σ x k = some ((), τ) ∧ r_G τ (if k = 2 then q_rpush R x else R) (fun f => if k = 3 ∧ f = x then 1 else nz f) ∧ z_out 57 58 (fun a => if a = 54 then τ 54 else σ a) τ ∧ (τ 54 2 = σ 54 2 ∧ τ 54 5 = σ 54 5) := by
  obtain ⟨h4, h57, h58⟩ := hG
  unfold f_X3_gatherFrame
  rw [h4, if_pos (by unfold zr; omega)]
  by_cases a : k = 2
  · subst a
    refine ⟨z_up (z_up σ 57 R.1 x) 54 4 (R.1 + 1), ?_, ⟨?_, fun i i0 i1 => ?_, fun f f0 f1 => ?_⟩, ?_, ?_⟩
    · rw [if_neg (by omega), if_pos (by unfold zr; omega), if_neg (by omega), if_pos (by omega), z_put, z_put, z_rn (by omega), h4]
      unfold f_X3_gatherFrame_b35 f_X3_gatherFrame_b58
      rw [if_pos (by decide), if_pos (by omega)]
    · rw [z_re, if_pos rfl]; rfl
    · rw [if_pos rfl] at i1 ⊢
      have i1 : i < R.1 + 1 := i1
      rw [z_rn (by omega)]
      show _ = if i = R.1 then x else R.2 i
      by_cases e : i = R.1
      · rw [if_pos e, e, z_re]
      · rw [if_neg e, z_ri e]; exact h57 i i0 (by omega)
    · show _ = if (2 : Int) = 3 ∧ f = x then 1 else nz f
      rw [z_rn (by omega), z_rn (by omega), if_neg (by omega)]; exact h58 f f0 f1
    · intro b hb
      by_cases e : b = 54
      · subst e; rfl
      · show _ = if b = 54 then _ else _
        rw [if_neg e]
        funext y
        rw [z_rn e, z_rn (by omega)]
    · exact ⟨by rw [z_ri (by omega), z_rn (by omega)], by rw [z_ri (by omega), z_rn (by omega)]⟩
  · rw [if_pos a]
    unfold f_X3_gatherFrame_b35 f_X3_gatherFrame_b58
    rw [if_pos (by unfold zr; omega), if_neg a]
    by_cases b : k = 3
    · refine ⟨z_up σ 58 x 1, ?_, ⟨?_, fun i i0 i1 => ?_, fun f f0 f1 => ?_⟩, ?_, ?_⟩
      · rw [if_neg (by omega), if_pos (by unfold zr; omega), if_neg (by omega), if_pos (by unfold zr; omega), if_neg (by omega), if_pos (by omega), z_put]
      · rw [z_rn (by omega)]; exact h4
      · rw [z_rn (by omega)]; exact h57 i i0 i1
      · show _ = if k = 3 ∧ f = x then 1 else nz f
        by_cases e : f = x
        · rw [if_pos ⟨b, e⟩, e, z_re]
        · rw [if_neg (by omega), z_ri e]; exact h58 f f0 f1
      · intro c hc
        by_cases e : c = 54
        · subst e; rfl
        · show _ = if c = 54 then _ else _
          rw [if_neg e]
          funext y
          rw [z_rn (by omega)]
      · exact ⟨by rw [z_rn (by omega)], by rw [z_rn (by omega)]⟩
    · refine ⟨σ, by rw [if_pos b], ⟨h4, h57, fun f f0 f1 => by show _ = if k = 3 ∧ f = x then 1 else nz f; rw [if_neg (by omega)]; exact h58 f f0 f1⟩, ?_, rfl, rfl⟩
      intro c hc
      by_cases e : c = 54
      · subst e; rfl
      · show _ = if c = 54 then _ else _
        rw [if_neg e]
/-- the class' cells but those of the room sound and the noise -/
def z_gr (σ τ : zS) : Prop := (∀ a, a ≠ 54 → a ≠ 57 → a ≠ 58 → τ a = σ a) ∧ τ 54 2 = σ 54 2 ∧ τ 54 5 = σ 54 5
theorem z_gr_rf {σ : zS} : z_gr σ σ := ⟨fun _ _ _ _ => rfl, rfl, rfl⟩
theorem z_gr_tr {σ τ υ : zS} (h1 : z_gr σ τ) (h2 : z_gr τ υ) : z_gr σ υ := ⟨fun a a1 a2 a3 => (h2.1 a a1 a2 a3).trans (h1.1 a a1 a2 a3), h2.2.1.trans h1.2.1, h2.2.2.trans h1.2.2⟩
theorem z_gr_of {σ τ : zS} (h : z_out 57 58 (fun a => if a = 54 then τ 54 else σ a) τ) (h2 : τ 54 2 = σ 54 2 ∧ τ 54 5 = σ 54 5) : z_gr σ τ := ⟨fun a a1 a2 a3 => by have := h a (by omega); simpa [a1] using this, h2⟩
theorem v_C_gr {σ τ : zS} {V : zV} (h : v_C σ 0 V) (hg : z_gr σ τ) : v_C τ 0 V := v_C_of h (fun a h1 h2 => hg.1 a (by omega) (by omega) (by omega))
theorem q_rm1_n (R : zM) (a : Int) : ∀ n : Nat, (q_rm1 R a n).1 = R.1 + n := by
  intro n
  induction n with
  | zero => simp [q_rm1]
  | succ n ih => show (q_rm1 R a n).1 + 1 = _; rw [ih]; omega
theorem c_gather_l49 {V : zV} (hV : v_ok V) (m : Nat) (m1 : (m : Int) < v_M V) (K : zS → Int → Option (Unit × zS)) : ∀ (n f : Nat) (x : Int) (σ : zS), n < f → v_K V 1 m ≤ x → x + n = v_K V 2 m → v_C σ 0 V → r_G σ (if v_K V 0 m = 2 then q_rm1 (q_rm V m) (v_K V 1 m) (x - v_K V 1 m).toNat else q_rm V m) (fun f => if v_K V 0 m = 3 ∧ v_K V 1 m ≤ f ∧ f < x then 1 else q_nz V f m) → ∃ τ, f_X3_gatherRoomAndNoise_l49 K f σ m x = K τ (m + 1) ∧ r_G τ (q_rm V (m + 1)) (fun f => q_nz V f (m + 1)) ∧ z_gr σ τ := by
  intro n
  have hM := hV.2.1
  have hF := hV.1
  have hmk := hV.2.2.2.1 m (by omega) m1
  unfold v_mok at hmk
  induction n with
  | zero =>
    intro f x σ hf x0 hx hC hG
    obtain ⟨f, rfl⟩ : ∃ k, f = k + 1 := ⟨f - 1, by omega⟩
    obtain ⟨e2, e3, e4, e5, e6⟩ := (v_C0 hC).2.2.2.1 m (by omega) m1
    refine ⟨σ, ?_, ?_, z_gr_rf⟩
    · unfold f_X3_gatherRoomAndNoise_l49 f_X3_gatherRoomAndNoise_b49
      rw [e4, if_pos (by omega), if_pos (by unfold zr; omega), if_pos (by omega)]
    · have hx : x = v_K V 2 m := by omega
      rw [hx] at hG
      exact hG
  | succ n ih =>
    intro f x σ hf x0 hx hC hG
    obtain ⟨f, rfl⟩ : ∃ k, f = k + 1 := ⟨f - 1, by omega⟩
    obtain ⟨e2, e3, e4, e5, e6⟩ := (v_C0 hC).2.2.2.1 m (by omega) m1
    have hR : 0 ≤ (if v_K V 0 m = 2 then q_rm1 (q_rm V m) (v_K V 1 m) (x - v_K V 1 m).toNat else q_rm V m).1 ∧ (if v_K V 0 m = 2 then q_rm1 (q_rm V m) (v_K V 1 m) (x - v_K V 1 m).toNat else q_rm V m).1 < 200 := by
      have h1 := (q_rm_ok hV m (by omega)).1
      rw [if_pos m1] at h1
      split
      · rw [q_rm1_n]; omega
      · omega
    obtain ⟨τ, t1, t2, t3, t4⟩ := c_gFrame hG (x := x) (k := v_K V 0 m) (by omega) (by omega) hR
    have g := z_gr_of t3 t4
    obtain ⟨υ, u1, u2, u3⟩ := ih f (x + 1) τ (by omega) (by omega) (by omega) (v_C_gr hC g) (by
      have hn : (x + 1 - v_K V 1 m).toNat = (x - v_K V 1 m).toNat + 1 := by omega
      have ea : (if v_K V 0 m = 2 then q_rpush (if v_K V 0 m = 2 then q_rm1 (q_rm V m) (v_K V 1 m) (x - v_K V 1 m).toNat else q_rm V m) x else (if v_K V 0 m = 2 then q_rm1 (q_rm V m) (v_K V 1 m) (x - v_K V 1 m).toNat else q_rm V m)) = (if v_K V 0 m = 2 then q_rm1 (q_rm V m) (v_K V 1 m) (x + 1 - v_K V 1 m).toNat else q_rm V m) := by
        by_cases a : v_K V 0 m = 2
        · rw [if_pos a, if_pos a, if_pos a, hn]
          show _ = q_rpush _ _
          rw [show v_K V 1 m + ((x - v_K V 1 m).toNat : Int) = x by omega]
        · rw [if_neg a, if_neg a, if_neg a]
      have eb : (fun f => if v_K V 0 m = 3 ∧ f = x then 1 else (if v_K V 0 m = 3 ∧ v_K V 1 m ≤ f ∧ f < x then 1 else q_nz V f m)) = (fun f => if v_K V 0 m = 3 ∧ v_K V 1 m ≤ f ∧ f < x + 1 then 1 else q_nz V f m) := by
        funext f
        by_cases a : v_K V 0 m = 3 ∧ f = x
        · rw [if_pos a, if_pos (by omega)]
        · rw [if_neg a]
          by_cases b : v_K V 0 m = 3 ∧ v_K V 1 m ≤ f ∧ f < x
          · rw [if_pos b, if_pos (by omega)]
          · rw [if_neg b, if_neg (by omega)]
      rw [ea, eb] at t2
      exact t2)
    refine ⟨υ, ?_, u2, z_gr_tr g u3⟩
    unfold f_X3_gatherRoomAndNoise_l49 f_X3_gatherRoomAndNoise_b49
    rw [e4, if_pos (by omega), if_pos (by unfold zr; omega), if_neg (by omega), if_pos (by omega), e2, t1, z_bd]
    exact u1
theorem c_gather_l34 {V : zV} (hV : v_ok V) : ∀ (n m f : Nat) (σ : zS), n < f → (m : Int) + n = v_M V → v_C σ 0 V → r_G σ (q_rm V m) (fun f => q_nz V f m) → ∃ τ, f_X3_gatherRoomAndNoise_l34 f σ m = some ((), τ) ∧ r_G τ (q_R V) (fun f => q_nz V f (v_M V).toNat) ∧ z_gr σ τ := by
  intro n
  have hM := hV.2.1
  have hF := hV.1
  induction n with
  | zero =>
    intro m f σ hf hm hC hG
    obtain ⟨f, rfl⟩ : ∃ k, f = k + 1 := ⟨f - 1, by omega⟩
    have h7 := (v_C0 hC).2.1
    refine ⟨σ, ?_, ?_, z_gr_rf⟩
    · unfold f_X3_gatherRoomAndNoise_l34 f_X3_gatherRoomAndNoise_b34
      rw [h7, if_pos (by unfold zr; omega), if_pos (by omega)]
    · have e : m = (v_M V).toNat := by omega
      rw [e] at hG
      exact hG
  | succ n ih =>
    intro m f σ hf hm hC hG
    obtain ⟨f, rfl⟩ : ∃ k, f = k + 1 := ⟨f - 1, by omega⟩
    have h7 := (v_C0 hC).2.1
    have m1 : (m : Int) < v_M V := by omega
    obtain ⟨e2, e3, e4, e5, e6⟩ := (v_C0 hC).2.2.2.1 m (by omega) m1
    have hmk := (hV.2.2.2.1 m (by omega) m1).2.1
    obtain ⟨τ, t1, t2, t3⟩ := c_gather_l49 hV m m1 (f_X3_gatherRoomAndNoise_l34 f) (v_K V 2 m - v_K V 1 m).toNat z_fuel (v_K V 1 m) σ (by unfold z_fuel; omega) (by omega) (by omega) hC (by
      have e1 : (v_K V 1 m - v_K V 1 m).toNat = 0 := by omega
      have ea : (if v_K V 0 m = 2 then q_rm1 (q_rm V m) (v_K V 1 m) (v_K V 1 m - v_K V 1 m).toNat else q_rm V m) = q_rm V m := by
        rw [e1]; split <;> rfl
      have eb : (fun f => if v_K V 0 m = 3 ∧ v_K V 1 m ≤ f ∧ f < v_K V 1 m then 1 else q_nz V f m) = (fun f => q_nz V f m) := by
        funext f
        rw [if_neg (by omega)]
      rw [ea, eb]; exact hG)
    obtain ⟨υ, u1, u2, u3⟩ := ih (m + 1) f τ (by omega) (by omega) (v_C_gr hC t3) t2
    refine ⟨υ, ?_, u2, z_gr_tr t3 u3⟩
    unfold f_X3_gatherRoomAndNoise_l34 f_X3_gatherRoomAndNoise_b34
    rw [h7, if_pos (by unfold zr; omega), if_neg (by omega), if_pos (by omega), e3, t1]
    rw [show ((m : Int) + 1) = ((m + 1 : Nat) : Int) by omega]
    exact u1
theorem c_gather_l12 {V : zV} (hV : v_ok V) : ∀ (n f : Nat) (x : Int) (σ : zS), n < f → 0 ≤ x → x + n = 200 → v_C σ 0 V → σ 54 4 = 0 → (∀ i, 0 ≤ i → i < x → σ 58 i = 0) → ∃ τ, f_X3_gatherRoomAndNoise_l12 f σ x = some ((), τ) ∧ r_G τ (q_R V) (fun f => q_nz V f (v_M V).toNat) ∧ z_gr σ τ := by
  intro n
  have hM := hV.2.1
  induction n with
  | zero =>
    intro f x σ hf x0 hx hC h4 h58
    obtain ⟨f, rfl⟩ : ∃ k, f = k + 1 := ⟨f - 1, by omega⟩
    obtain ⟨τ, t1, t2, t3⟩ := c_gather_l34 hV (v_M V).toNat 0 z_fuel σ (by unfold z_fuel; omega) (by omega) hC ⟨h4, fun i i0 i1 => by have i1 : i < 0 := i1; omega, fun f f0 f1 => h58 f f0 (by omega)⟩
    refine ⟨τ, ?_, t2, t3⟩
    unfold f_X3_gatherRoomAndNoise_l12 f_X3_gatherRoomAndNoise_b12
    rw [if_pos (by unfold zr; omega), if_pos (by omega)]
    exact t1
  | succ n ih =>
    intro f x σ hf x0 hx hC h4 h58
    obtain ⟨f, rfl⟩ : ∃ k, f = k + 1 := ⟨f - 1, by omega⟩
    have g : z_gr σ (z_up σ 58 x 0) := ⟨fun a a1 a2 a3 => by funext b; exact z_rn (by omega), by rw [z_rn (by omega)], by rw [z_rn (by omega)]⟩
    obtain ⟨τ, t1, t2, t3⟩ := ih f (x + 1) (z_up σ 58 x 0) (by omega) (by omega) (by omega) (v_C_gr hC g) (by rw [z_rn (by omega)]; exact h4) (fun i i0 i1 => by
      by_cases e : i = x
      · rw [e, z_re]
      · rw [z_ri e]; exact h58 i i0 (by omega))
    refine ⟨τ, ?_, t2, z_gr_tr g t3⟩
    unfold f_X3_gatherRoomAndNoise_l12 f_X3_gatherRoomAndNoise_b12
    rw [if_pos (by unfold zr; omega), if_neg (by omega), if_pos (by omega), z_put]
    exact t1
theorem c_gather {σ : zS} {V : zV} (hC : v_C σ 0 V) (hV : v_ok V) : ∃ τ, f_X3_gatherRoomAndNoise σ = some ((), τ) ∧ r_G τ (q_R V) (fun f => q_nz V f (v_M V).toNat) ∧ (∀ a, a ≠ 54 → a ≠ 57 → a ≠ 58 → τ a = σ a) ∧ τ 54 2 = σ 54 2 ∧ τ 54 5 = 0 := by
  have e : ∀ a, a ≠ 54 → z_up (z_up σ 54 4 0) 54 5 0 a = σ a := fun a ha => by funext b; rw [z_rn ha, z_rn ha]
  obtain ⟨τ, t1, t2, t3⟩ := c_gather_l12 hV 200 z_fuel 0 (z_up (z_up σ 54 4 0) 54 5 0) (by unfold z_fuel; omega) (by omega) (by omega) (v_C_of hC (fun a h1 h2 => e a (by omega))) (by rw [z_ri (by omega), z_re]) (fun i i0 i1 => by omega)
  refine ⟨τ, t1, t2, fun a a1 a2 a3 => (t3.1 a a1 a2 a3).trans (e a a1), ?_, ?_⟩
  · rw [t3.2.1, z_ri (by omega), z_ri (by omega)]
  · rw [t3.2.2, z_re]
