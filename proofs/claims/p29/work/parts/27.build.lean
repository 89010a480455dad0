/-! THE CLASS' RESULT, ITS FRAMES -/
theorem q_mod {t n i : Int} (hn : 0 < n) (h : t % n = i) : (t + 1) % n = if i + 1 = n then 0 else i + 1 := by
  have h1 := Int.mul_ediv_add_emod t n
  have h2 := Int.emod_nonneg t (b := n) (by omega)
  have h3 := Int.emod_lt_of_pos t (b := n) hn
  rw [h] at h1 h2 h3
  by_cases a : i + 1 = n
  · rw [if_pos a]
    have e : t + 1 = n * (t / n + 1) := by rw [Int.mul_add]; omega
    rw [e]
    exact Int.mul_emod_right n _
  · rw [if_neg a]
    have e : t + 1 = (i + 1) + n * (t / n) := by omega
    rw [e, Int.add_mul_emod_self_left]
    exact Int.emod_eq_of_lt (by omega) (by omega)
/-- the class' result holds r -/
def r_P (σ : zS) (r : zP) : Prop := σ 54 2 = r.1 ∧ ∀ i, 0 ≤ i → i < r.1 → σ 55 i = r.2.1 i ∧ σ 56 i = r.2.2 i
/-- the class' cells but those of the result's frames -/
def z_bl (σ τ : zS) : Prop := (∀ a, a ≠ 54 → a ≠ 55 → a ≠ 56 → τ a = σ a) ∧ τ 54 4 = σ 54 4
theorem z_bl_rf {σ : zS} : z_bl σ σ := ⟨fun _ _ _ _ => rfl, rfl⟩
theorem z_bl_tr {σ τ υ : zS} (h1 : z_bl σ τ) (h2 : z_bl τ υ) : z_bl σ υ := ⟨fun a a1 a2 a3 => (h2.1 a a1 a2 a3).trans (h1.1 a a1 a2 a3), h2.2.trans h1.2⟩
theorem v_C_bl {σ τ : zS} {V : zV} (h : v_C σ 0 V) (hg : z_bl σ τ) : v_C τ 0 V := v_C_of h (fun a h1 h2 => hg.1 a (by omega) (by omega) (by omega))
theorem r_G_bl {σ τ : zS} {R : zM} {nz : Int → Int} (h : r_G σ R nz) (hg : z_bl σ τ) : r_G τ R nz := by
  unfold r_G at h ⊢
  rw [hg.2, hg.1 57 (by omega) (by omega) (by omega), hg.1 58 (by omega) (by omega) (by omega)]
  exact h
theorem r_C_bl {σ τ : zS} {s : zL} (h : r_C σ s) (hg : z_bl σ τ) : r_C τ s := by
  unfold r_C at h ⊢
  rw [hg.1 48 (by omega) (by omega) (by omega), hg.1 49 (by omega) (by omega) (by omega), hg.1 50 (by omega) (by omega) (by omega), hg.1 51 (by omega) (by omega) (by omega), hg.1 52 (by omega) (by omega) (by omega), hg.1 53 (by omega) (by omega) (by omega)]
  exact h
theorem c_add {σ : zS} {r : zP} {s l : Int} (hr : r_P σ r) (hn : 0 ≤ r.1 ∧ r.1 < 200) : ∃ τ, f_X3_add σ s l = some ((), τ) ∧ r_P τ (q_add r s l) ∧ z_bl σ τ ∧ τ 54 5 = σ 54 5 := by
  have h2 := hr.1
  refine ⟨z_up (z_up (z_up σ 55 r.1 s) 56 r.1 l) 54 2 (r.1 + 1), ?_, ⟨by rw [z_re]; rfl, fun i i0 i1 => ?_⟩, ⟨fun a a1 a2 a3 => by funext b; rw [z_rn a1, z_rn a3, z_rn a2], by rw [z_ri (by omega), z_rn (by omega), z_rn (by omega)]⟩, by rw [z_ri (by omega), z_rn (by omega), z_rn (by omega)]⟩
  · unfold f_X3_add f_X3_add_b40
    rw [h2, if_pos (by unfold zr; omega), if_neg (by omega), if_pos (by omega), z_put, z_rn (by omega), h2, if_pos (by omega), z_put, z_rn (by omega), z_rn (by omega), h2, z_put]
  · have i1 : i < r.1 + 1 := i1
    show _ = (if i = r.1 then s else r.2.1 i) ∧ _ = (if i = r.1 then l else r.2.2 i)
    by_cases e : i = r.1
    · rw [if_pos e, if_pos e, e, z_rn (by omega), z_rn (by omega), z_re, z_rn (by omega), z_re]; exact ⟨rfl, rfl⟩
    · rw [if_neg e, if_neg e, z_rn (by omega), z_rn (by omega), z_ri e, z_rn (by omega), z_ri e, z_rn (by omega)]
      exact hr.2 i i0 (by omega)
/-- where the class' room sound goes on -/
def r_T (V : zV) (p t : Int) : Prop := (q_R V).1 = 0 ∨ ((0 ≤ p ∧ p ≤ (q_R V).1) ∧ (if p = (q_R V).1 then 0 else p) = t % (q_R V).1)
theorem c_next {σ : zS} {V : zV} {r : zP} {t : Int} {nz : Int → Int} (hV : v_ok V) (hG : r_G σ (q_R V) nz) (hr : r_P σ r) (hT : r_T V (σ 54 5) t) (h0 : ¬ (q_R V).1 = 0) : ∃ τ, f_X3_nextRoomFrame σ = some ((q_R V).2 (t % (q_R V).1), τ) ∧ r_P τ r ∧ z_bl σ τ ∧ r_T V (τ 54 5) (t + 1) := by
  have hR := (q_R_ok hV).1
  have hF := hV.1
  obtain ⟨g1, g2, g3⟩ := hG
  rcases hT with hT | ⟨hT, hT2⟩
  · exact absurd hT h0
  obtain ⟨⟨f1, f2⟩, f3⟩ := q_rf hV (t := t) h0
  have hb : ∀ υ : zS, (∀ a, a ≠ 54 → υ a = σ a) → υ 54 2 = σ 54 2 → υ 54 4 = σ 54 4 → υ 54 5 = t % (q_R V).1 → ∃ τ, f_X3_nextRoomFrame_b16 υ = some ((q_R V).2 (t % (q_R V).1), τ) ∧ r_P τ r ∧ z_bl σ τ ∧ r_T V (τ 54 5) (t + 1) := by
    intro υ u1 u2 u3 u4
    refine ⟨z_up υ 54 5 (t % (q_R V).1 + 1), ?_, ?_, ⟨fun a a1 a2 a3 => by rw [← u1 a a1]; funext b; exact z_rn a1, by rw [z_ri (by omega)]; exact u3⟩, ?_⟩
    · unfold f_X3_nextRoomFrame_b16
      rw [u4, if_pos (by omega), z_put, u1 57 (by omega), g2 _ f1 f2]
    · refine ⟨by rw [z_ri (by omega), u2]; exact hr.1, fun i i0 i1 => ?_⟩
      rw [z_rn (by omega), z_rn (by omega), u1 55 (by omega), u1 56 (by omega)]
      exact hr.2 i i0 i1
    · rw [z_re]
      refine Or.inr ⟨by omega, ?_⟩
      rw [q_mod (by omega) rfl]
  unfold f_X3_nextRoomFrame
  rw [g1, if_pos (by unfold zr; omega)]
  by_cases a : σ 54 5 < (q_R V).1
  · rw [if_pos a]
    rw [if_neg (by omega)] at hT2
    exact hb σ (fun _ _ => rfl) rfl rfl hT2
  · rw [if_neg a, z_put]
    rw [if_pos (by omega)] at hT2
    exact hb (z_up σ 54 5 0) (fun a ha => by funext b; exact z_rn ha) (z_ri (by omega)) (z_ri (by omega)) (by rw [z_re]; exact hT2)
theorem c_addPause_l {V : zV} {nz : Int → Int} (hV : v_ok V) {t b : Int} {r0 : zP} {c : Int} (hb : b ≤ 200) (hc : c ≤ 100) : ∀ (n i f : Nat) (σ : zS), n < f → (i : Int) + n = c → v_C σ 0 V → r_G σ (q_R V) nz → r_P σ (q_ps V t r0 i) → q_pok2 V (q_ps V t r0 i) b n → r_T V (σ 54 5) (t + i) → ∃ τ, f_X3_addPause_l2 f σ c i = some ((), τ) ∧ r_P τ (q_ps V t r0 (i + n)) ∧ z_bl σ τ ∧ r_T V (τ 54 5) (t + c) := by
  intro n
  have hF := hV.1
  have hR := (q_R_ok hV).1
  induction n with
  | zero =>
    intro i f σ hf hi hC hG hr hk hT
    obtain ⟨f, rfl⟩ : ∃ k, f = k + 1 := ⟨f - 1, by omega⟩
    refine ⟨σ, ?_, hr, z_bl_rf, by rw [show c = (i : Int) by omega]; exact hT⟩
    unfold f_X3_addPause_l2 f_X3_addPause_b2
    rw [if_pos (by unfold zr; omega), if_pos (by omega)]
  | succ n ih =>
    intro i f σ hf hi hC hG hr hk hT
    obtain ⟨f, rfl⟩ : ∃ k, f = k + 1 := ⟨f - 1, by omega⟩
    have hk1 := hk.1.1
    have hk2 := hk.2
    have g4 := hG.1
    have hstep : ∀ υ : zS, r_P υ (q_ps V t r0 (i + 1)) → z_bl σ υ → r_T V (υ 54 5) (t + (i + 1)) → ∃ τ, f_X3_addPause_b47 (f_X3_addPause_l2 f) υ c i = some ((), τ) ∧ r_P τ (q_ps V t r0 (i + (n + 1))) ∧ z_bl σ τ ∧ r_T V (τ 54 5) (t + c) := by
      intro υ u1 u2 u3
      obtain ⟨τ, t1, t2, t3, t4⟩ := ih (i + 1) f υ (by omega) (by omega) (v_C_bl hC u2) (r_G_bl hG u2) u1 (q_ps_ok_step hV hk) u3
      refine ⟨τ, ?_, by rw [show i + (n + 1) = i + 1 + n by omega]; exact t2, z_bl_tr u2 t3, t4⟩
      unfold f_X3_addPause_b47
      rw [show ((i : Int) + 1) = ((i + 1 : Nat) : Int) by omega]
      exact t1
    unfold f_X3_addPause_l2 f_X3_addPause_b2
    rw [if_pos (by unfold zr; omega), if_neg (by omega), g4, if_pos (by unfold zr; omega)]
    have hq : q_ps V t r0 (i + 1) = q_add (q_ps V t r0 i) (if (q_R V).1 = 0 then 2000 else 1000 + (q_R V).2 ((t + i) % (q_R V).1)) (if (q_R V).1 = 0 then 0 else v_L V ((q_R V).2 ((t + i) % (q_R V).1))) := rfl
    by_cases a : (q_R V).1 = 0
    · rw [if_pos a, if_pos a] at hq
      obtain ⟨υ, u1, u2, u3, u4⟩ := c_add hr (s := 2000) (l := 0) (by omega)
      rw [if_neg (by omega), u1, z_bd]
      exact hstep υ (by rw [hq]; exact u2) u3 (Or.inl a)
    · rw [if_neg a, if_neg a] at hq
      obtain ⟨υ, u1, u2, u3, u4⟩ := c_next hV hG hr hT a
      have hf2 := (q_rf hV (t := t + i) a).2
      have hlv := c_levelAt (v_C_bl hC u3) hV (x := (q_R V).2 ((t + i) % (q_R V).1)) (by unfold zr; omega)
      unfold q_lv at hlv
      rw [if_pos hf2] at hlv
      obtain ⟨φ, p1, p2, p3, p4⟩ := c_add u2 (s := 1000 + (q_R V).2 ((t + i) % (q_R V).1)) (l := v_L V ((q_R V).2 ((t + i) % (q_R V).1))) (by omega)
      rw [if_pos (by omega), u1, z_bd, hlv, z_bd, p1, z_bd]
      exact hstep φ (by rw [hq]; exact p2) (z_bl_tr u3 p3) (by rw [p4, show t + ((i : Int) + 1) = t + i + 1 by omega]; exact u4)
