/-! MARK, THE REFERENCE'S; BOTH -/
theorem m_mark51 {V : zV} {d0 w k f t d : Int} (hV : v_ok V) (hf : 0 ≤ f ∧ f ≤ 200) (ht : 0 ≤ t ∧ t ≤ 200) {σ : zS} (hR : v_Q (σ 1) V d0 w) : ∀ (n m g : Nat), n < g → (m : Int) + n = v_M V → ∃ g', f_X6_mark_l51 g σ k f t d (q_at V f m) (q_ov V f t m) m = f_X6_mark_b51 (f_X6_mark_l51 g') σ k f t d (q_at V f (v_M V).toNat) (q_ov V f t (v_M V).toNat) (v_M V) := by
  intro n
  have hM := hV.2.1
  have hF := hV.1
  have h8 := hR.2.1
  induction n with
  | zero =>
    intro m g hg hm
    obtain ⟨g, rfl⟩ : ∃ k, g = k + 1 := ⟨g - 1, by omega⟩
    refine ⟨g, ?_⟩
    have e : m = (v_M V).toNat := by omega
    rw [← e, show v_M V = (m : Int) by omega]
    rfl
  | succ n ih =>
    intro m g hg hm
    obtain ⟨g, rfl⟩ : ∃ k, g = k + 1 := ⟨g - 1, by omega⟩
    have hk := (hV.2.2.2.1 m (by omega) (by omega)).2.1
    obtain ⟨e0, e1, e2, e3, e4⟩ := m_of hR hV (m := m) (by omega) (by omega)
    obtain ⟨g', hi⟩ := ih (m + 1) g (by omega) (by omega)
    refine ⟨g', ?_⟩
    rw [← hi]
    have hq : q_ov V f t (m + 1) = if f < v_K V 2 m ∧ v_K V 1 m < t then 1 else q_ov V f t m := rfl
    have ha : q_at V f (m + 1) = q_at V f m + (if v_K V 1 m < f then 1 else 0) := rfl
    have ho := q_ov_ok V f t m
    have hT : ∀ s0 : Int, f_X6_mark_b95 (f_X6_mark_l51 g) σ k f t d (q_at V f m) m s0 = f_X6_mark_l51 g σ k f t d (q_at V f (m + 1)) s0 (((m + 1 : Nat) : Int)) := by
      intro s0
      unfold f_X6_mark_b95 f_X6_mark_b115
      rw [e1, z_bd, if_pos (by unfold zr; omega), ha, show ((m + 1 : Nat) : Int) = (m : Int) + 1 by omega]
      by_cases c : v_K V 1 m < f
      · rw [if_neg (by omega), if_pos c]
      · rw [if_pos (by omega), if_neg c]
    show f_X6_mark_b51 (f_X6_mark_l51 g) σ k f t d (q_at V f m) (q_ov V f t m) m = _
    unfold f_X6_mark_b51 f_X6_mark_b90 f_X6_mark_b94
    rw [h8, if_pos (by omega), if_pos (by unfold zr; omega), if_neg (by omega), if_pos (by unfold zr; omega)]
    by_cases a : q_ov V f t m = 0
    · rw [if_neg (by omega), e2, z_bd, if_pos (by unfold zr; omega)]
      by_cases b : v_K V 2 m ≤ f
      · rw [if_neg (by omega), a] at hq
        rw [if_pos b, hq]; exact hT 0
      · rw [if_neg b, e1, z_bd, if_pos (by unfold zr; omega)]
        by_cases c : t ≤ v_K V 1 m
        · rw [if_neg (by omega), a] at hq
          rw [if_pos c, hq]; exact hT 0
        · rw [if_pos (by omega)] at hq
          rw [if_neg c, hq]; exact hT 1
    · have a1 : q_ov V f t m = 1 := by omega
      have hq1 : q_ov V f t (m + 1) = 1 := by rw [hq, a1]; split <;> rfl
      rw [if_pos a, hq1]; exact hT 1
theorem m_mark168 {M k f t d p : Int} (hM : 0 ≤ M ∧ M < 20) (hp : 0 ≤ p ∧ p ≤ M) : ∀ (n g : Nat) (x : Int) (σ : zS), n < g → x = 210 + 5 * p - 1 + n → x ≤ 210 + 5 * M - 1 → σ 1 8 = M → ∃ τ, f_X6_mark_l168 g σ k f t d p x = some (p, τ) ∧ (∀ y, τ 1 y = if y = 8 then M + 1 else if y = 210 + 5 * p then k else if y = 210 + 5 * p + 1 then f else if y = 210 + 5 * p + 2 then t else if y = 210 + 5 * p + 3 then d else if y = 210 + 5 * p + 4 then 0 else if 210 + 5 * p + 5 ≤ y ∧ y ≤ x + 5 then σ 1 (y - 5) else σ 1 y) ∧ z_ex (fun a _ => a = 1) σ τ := by
  intro n
  induction n with
  | zero =>
    intro g x σ hg hx hx2 h8
    obtain ⟨g, rfl⟩ : ∃ k, g = k + 1 := ⟨g - 1, by omega⟩
    refine ⟨z_up (z_up (z_up (z_up (z_up (z_up σ 1 (210 + 5 * p) k) 1 (210 + 5 * p + 1) f) 1 (210 + 5 * p + 2) t) 1 (210 + 5 * p + 3) d) 1 (210 + 5 * p + 4) 0) 1 8 (M + 1), ?_, fun y => ?_, z_ex_up (z_ex_up (z_ex_up (z_ex_up (z_ex_up (z_ex_up z_ex_rf rfl) rfl) rfl) rfl) rfl) rfl⟩
    · show f_X6_mark_b168 (f_X6_mark_l168 g) σ k f t d p x = _
      unfold f_X6_mark_b168
      rw [if_pos (by unfold zr; omega), if_pos (by omega), if_pos (by omega), z_put, if_pos (by omega), z_put, if_pos (by omega), z_put, if_pos (by omega), z_put, if_pos (by omega), z_put, if_pos (by omega), if_pos (by omega), z_put]
      rw [z_ri (by omega), z_ri (by omega), z_ri (by omega), z_ri (by omega), z_ri (by omega), h8]
    · by_cases e0 : y = 8
      · rw [if_pos e0, e0, z_re]
      · rw [if_neg e0, z_ri e0]
        by_cases e1 : y = 210 + 5 * p
        · rw [if_pos e1, z_ri (by omega), z_ri (by omega), z_ri (by omega), z_ri (by omega), e1, z_re]
        · rw [if_neg e1]
          by_cases e2 : y = 210 + 5 * p + 1
          · rw [if_pos e2, z_ri (by omega), z_ri (by omega), z_ri (by omega), e2, z_re]
          · rw [if_neg e2]
            by_cases e3 : y = 210 + 5 * p + 2
            · rw [if_pos e3, z_ri (by omega), z_ri (by omega), e3, z_re]
            · rw [if_neg e3]
              by_cases e4 : y = 210 + 5 * p + 3
              · rw [if_pos e4, z_ri (by omega), e4, z_re]
              · rw [if_neg e4]
                by_cases e5 : y = 210 + 5 * p + 4
                · rw [if_pos e5, e5, z_re]
                · rw [if_neg e5, if_neg (by omega), z_ri e5, z_ri e4, z_ri e3, z_ri e2, z_ri e1]
  | succ n ih =>
    intro g x σ hg hx hx2 h8
    obtain ⟨g, rfl⟩ : ∃ k, g = k + 1 := ⟨g - 1, by omega⟩
    obtain ⟨τ, t1, t2, t3⟩ := ih g (x + (-1)) (z_up σ 1 (x + 5) (σ 1 x)) (by omega) (by omega) (by omega) (by rw [z_ri (by omega)]; exact h8)
    refine ⟨τ, ?_, fun y => ?_, z_ex_tr (z_ex_up z_ex_rf rfl) t3⟩
    · show f_X6_mark_b168 (f_X6_mark_l168 g) σ k f t d p x = _
      unfold f_X6_mark_b168
      rw [if_pos (by unfold zr; omega), if_neg (by omega), if_pos (by omega), if_pos (by omega), z_put]
      exact t1
    · rw [t2 y]
      by_cases e0 : y = 8
      · rw [if_pos e0, if_pos e0]
      · rw [if_neg e0, if_neg e0]
        by_cases e1 : y = 210 + 5 * p
        · rw [if_pos e1, if_pos e1]
        · rw [if_neg e1, if_neg e1]
          by_cases e2 : y = 210 + 5 * p + 1
          · rw [if_pos e2, if_pos e2]
          · rw [if_neg e2, if_neg e2]
            by_cases e3 : y = 210 + 5 * p + 2
            · rw [if_pos e3, if_pos e3]
            · rw [if_neg e3, if_neg e3]
              by_cases e4 : y = 210 + 5 * p + 3
              · rw [if_pos e4, if_pos e4]
              · rw [if_neg e4, if_neg e4]
                by_cases e5 : y = 210 + 5 * p + 4
                · rw [if_pos e5, if_pos e5]
                · rw [if_neg e5, if_neg e5]
                  by_cases e6 : y = x + 5
                  · rw [if_neg (by omega), if_pos (by omega), e6, z_re, show x + 5 - 5 = x by omega]
                  · by_cases e7 : 210 + 5 * p + 5 ≤ y ∧ y ≤ x + 5
                    · rw [if_pos (by omega), if_pos e7, z_ri (by omega)]
                    · rw [if_neg (by omega), if_neg e7, z_ri e6]
theorem m_ins {f0 g : Int → Int} {V : zV} {k f t d p : Int} (hR : v_R f0 V) (hV : v_ok V) (hM : v_M V < 20) (hp : 0 ≤ p ∧ p ≤ v_M V) (hg : ∀ y, g y = if y = 8 then v_M V + 1 else if y = 210 + 5 * p then k else if y = 210 + 5 * p + 1 then f else if y = 210 + 5 * p + 2 then t else if y = 210 + 5 * p + 3 then d else if y = 210 + 5 * p + 4 then 0 else if 210 + 5 * p + 5 ≤ y ∧ y ≤ 210 + 5 * v_M V - 1 + 5 then f0 (y - 5) else f0 y) : v_R g (v_ins V p k f t d) := by
  have hF := hV.1
  obtain ⟨f1, f2, f3, f4, f5⟩ := hR
  have far : ∀ y, y ≠ 8 → (y < 210 + 5 * p ∨ 210 + 5 * p + 5 ≤ y) → g y = if 210 + 5 * p + 5 ≤ y ∧ y ≤ 210 + 5 * v_M V - 1 + 5 then f0 (y - 5) else f0 y := by
    intro y h1 h2
    rw [hg, if_neg h1, if_neg (by omega), if_neg (by omega), if_neg (by omega), if_neg (by omega), if_neg (by omega)]
  have lo : ∀ y, y ≠ 8 → y < 210 + 5 * p → g y = f0 y := by
    intro y h1 h2
    rw [far y h1 (Or.inl h2), if_neg (by omega)]
  have hi : ∀ y, 210 + 5 * p + 5 ≤ y → y ≤ 210 + 5 * v_M V + 4 → g y = f0 (y - 5) := by
    intro y h1 h2
    rw [far y (by omega) (Or.inr h1), if_pos (by omega)]
  refine ⟨?_, ?_, fun i i0 i1 => ?_, fun i i0 i1 => ?_, fun i i0 i1 => ?_⟩
  · rw [lo 7 (by omega) (by omega)]; exact f1
  · rw [hg, if_pos rfl]; rfl
  · have i1 : i < v_F V := i1
    rw [lo _ (by omega) (by omega)]; exact f3 i i0 i1
  · have i1 : i < v_M V + 1 := i1
    by_cases a : i < p
    · rw [v_ins_lo a, v_ins_lo a, v_ins_lo a, v_ins_lo a, v_ins_lo a, lo _ (by omega) (by omega), lo _ (by omega) (by omega), lo _ (by omega) (by omega), lo _ (by omega) (by omega), lo _ (by omega) (by omega)]
      exact f4 i i0 (by omega)
    · by_cases b : i = p
      · obtain ⟨e0, e1, e2, e3, e4⟩ := v_ins_eq (V := V) (p := p) (k := k) (f := f) (t := t) (d := d)
        rw [b, e0, e1, e2, e3, e4]
        refine ⟨?_, ?_, ?_, ?_, ?_⟩
        · rw [hg, if_neg (by omega), if_pos rfl]
        · rw [hg, if_neg (by omega), if_neg (by omega), if_pos rfl]
        · rw [hg, if_neg (by omega), if_neg (by omega), if_neg (by omega), if_pos rfl]
        · rw [hg, if_neg (by omega), if_neg (by omega), if_neg (by omega), if_neg (by omega), if_pos rfl]
        · rw [hg, if_neg (by omega), if_neg (by omega), if_neg (by omega), if_neg (by omega), if_neg (by omega), if_pos rfl]
      · have b' : p < i := by omega
        have h := f4 (i - 1) (by omega) (by omega)
        rw [v_ins_hi b', v_ins_hi b', v_ins_hi b', v_ins_hi b', v_ins_hi b', hi _ (by omega) (by omega), hi _ (by omega) (by omega), hi _ (by omega) (by omega), hi _ (by omega) (by omega), hi _ (by omega) (by omega)]
        rw [show 210 + 5 * i - 5 = 210 + 5 * (i - 1) by omega, show 210 + 5 * i + 1 - 5 = 210 + 5 * (i - 1) + 1 by omega, show 210 + 5 * i + 2 - 5 = 210 + 5 * (i - 1) + 2 by omega, show 210 + 5 * i + 3 - 5 = 210 + 5 * (i - 1) + 3 by omega, show 210 + 5 * i + 4 - 5 = 210 + 5 * (i - 1) + 4 by omega]
        exact h
  · rw [lo _ (by omega) (by omega)]; exact f5 i i0 i1
theorem o_mark {A : zA} {σ τ : zS} {k f t d : Int} (hA : a_ok A) (hC : a_C σ A) (hM : a_M τ A) (hk : zr k) (hf : zr f) (ht : zr t) (hd : zr d) : o_eq (f_X5_mark σ k f t d) (f_X6_mark τ k f t d) := by
  obtain ⟨σ', τ', s1, t1, hh, hC', hM', s3, t3⟩ := o_act hA hC hM
  have hV := hA.2.1
  have hMk := hV.2.1
  have hF := hV.1
  have h1 := (v_C0 hC.2.1).1
  have h7c := (v_C0 hC.2.1).2.1
  have h7 := hM.2.1.1
  have h8 := hM.2.1.2.1
  have hik := m_in (σ := τ) hk (show zr 0 by decide) (show zr 3 by decide)
  have hid := m_in (σ := τ) hd (show zr 0 by decide) (show zr 100 by decide)
  have hkk := hk
  have hff := hf
  have htt := ht
  have hdd := hd
  unfold zr at hkk hff htt hdd
  by_cases a : (0 ≤ k ∧ k ≤ 3) ∧ (0 ≤ d ∧ d ≤ 100) ∧ 0 ≤ f ∧ f < t ∧ t ≤ v_F (a_V A)
  · obtain ⟨a1, a2, a3, a4, a5⟩ := a
    rw [if_pos a1] at hik
    rw [if_pos a2] at hid
    have ho := c_overlaps hC.2.1 hV (a := f) (b := t) (by omega) (by omega)
    have hoo := q_ov_ok (a_V A) f t (v_M (a_V A)).toNat
    obtain ⟨g', h51⟩ := m_mark51 (k := k) (d := d) hV (f := f) (t := t) (by omega) (by omega) (v_Q_of hM.2.1) (v_M (a_V A)).toNat 0 z_fuel (by unfold z_fuel; omega) (by omega)
    have fC0 : f_X5_mark σ k f t d = (if zr (q_ov (a_V A) f t (v_M (a_V A)).toNat) then if q_ov (a_V A) f t (v_M (a_V A)).toNat = 0 then if zr (σ 0 7) then if (σ 0 7) < 20 then z_bind (f_X1_keep 0 σ) fun _ σ3 => z_bind (f_X2_addMark 0 σ3 k f t d) fun r5 σ4 => some (r5, σ4) else some ((-3), σ) else none else some ((-2), σ) else none) := by
      unfold f_X5_mark
      rw [if_pos hk, if_neg (by omega), if_pos hk, if_neg (by omega), if_pos hd, if_neg (by omega), if_pos hd, if_pos (by omega), if_pos hf, if_neg (by omega), h1, if_pos (by unfold zr; omega), if_neg (by omega), if_pos (by unfold zr; omega), if_pos a4, ho, z_bd]
    have fM0 : f_X6_mark τ k f t d = f_X6_mark_b51 (f_X6_mark_l51 g') τ k f t d (q_at (a_V A) f (v_M (a_V A)).toNat) (q_ov (a_V A) f t (v_M (a_V A)).toNat) (v_M (a_V A)) := by
      unfold f_X6_mark
      rw [hik, z_bd, if_pos (by decide), if_neg (by omega), if_pos hf, if_neg (by omega), if_pos (by omega), h7, if_pos (by unfold zr; omega), if_neg (by omega), if_pos (by unfold zr; omega), if_neg (by omega), hid, z_bd, if_pos (by decide), if_pos (by omega)]
      exact h51
    by_cases b : q_ov (a_V A) f t (v_M (a_V A)).toNat = 0
    · have hp := q_at_ok hV a4 (v_M (a_V A)).toNat (by omega) b
      rw [show (((v_M (a_V A)).toNat : Nat) : Int) = v_M (a_V A) by omega] at hp
      obtain ⟨p, hpe⟩ : ∃ p, p = q_at (a_V A) f (v_M (a_V A)).toNat := ⟨_, rfl⟩
      rw [← hpe] at hp fM0
      by_cases c : v_M (a_V A) < 20
      · obtain ⟨σ2, c1, c2, c3⟩ := c_addMark (k := k) (d := d) hC'.2.1 hV c hp ⟨a3, a4, a5⟩
        have h8' : τ' 1 8 = v_M (a_V A) := hM'.2.1.2.1
        obtain ⟨τ2, d1, d2, d3⟩ := m_mark168 (k := k) (f := f) (t := t) (d := d) (p := p) ⟨hMk.1, c⟩ hp.1 (5 * (v_M (a_V A) - p)).toNat z_fuel (210 + 5 * v_M (a_V A) - 1) τ' (by have := hp.1; unfold z_fuel; omega) (by have := hp.1; omega) (by omega) h8'
        refine ⟨p, σ2, τ2, (a_n A, a_t A, v_ins (a_V A) p k f t d, (a_keep (a_h A) (a_s A) (a_V A)).1, (a_keep (a_h A) (a_s A) (a_V A)).2), ?_, ?_, ⟨hA.1, v_ins_ok hV c hp a1 ⟨a3, a4, a5⟩ a2, hh⟩, ⟨c_T_of hC'.1 (c3 62 (by omega)) (c3 63 (by omega)), c2, c_H_of hC'.2.2 hh.1.2 (fun a ha => c3 a (by omega))⟩, ⟨m_T_of hM'.1 d3 (by omega) (by omega), m_ins hM'.2.1 hV c hp.1 d2, m_H_of hM'.2.2 d3 (by omega) (by omega)⟩⟩
        · rw [fC0, if_pos (by unfold zr; omega), if_pos b, h7c, if_pos (by unfold zr; omega), if_pos c, s1, z_bd, c1, z_bd]
        · rw [fM0, b]
          unfold f_X6_mark_b51
          rw [h8, if_pos (by omega), if_pos (by unfold zr; omega), if_pos (by omega), if_pos (by decide), if_pos rfl, if_pos (by omega), if_pos (by unfold zr; omega), if_pos (by omega), t1, z_bd, if_pos (by omega), h8']
          exact d1
      · refine ⟨-3, σ, τ, A, ?_, ?_, hA, hC, hM⟩
        · rw [fC0, if_pos (by unfold zr; omega), if_pos b, h7c, if_pos (by unfold zr; omega), if_neg c]
        · rw [fM0, b]
          unfold f_X6_mark_b51
          rw [h8, if_pos (by omega), if_pos (by unfold zr; omega), if_pos (by omega), if_pos (by decide), if_pos rfl, if_pos (by omega), if_pos (by unfold zr; omega), if_neg (by omega)]
    · refine ⟨-2, σ, τ, A, ?_, ?_, hA, hC, hM⟩
      · rw [fC0, if_pos (by unfold zr; omega), if_neg b]
      · rw [fM0, show q_ov (a_V A) f t (v_M (a_V A)).toNat = 1 by omega]
        unfold f_X6_mark_b51
        rw [h8, if_pos (by omega), if_pos (by unfold zr; omega), if_pos (by omega), if_pos (by decide), if_neg (by omega)]
  · refine ⟨-1, σ, τ, A, ?_, ?_, hA, hC, hM⟩
    · unfold f_X5_mark f_X5_mark_b21 f_X5_mark_b43
      rw [if_pos hk]
      by_cases b1 : k < 0
      · rw [if_pos b1]
      · rw [if_neg b1, if_pos hk]
        by_cases b2 : 3 < k
        · rw [if_pos b2]
        · rw [if_neg b2, if_pos hd]
          by_cases b3 : d < 0
          · rw [if_pos b3]
          · rw [if_neg b3, if_pos hd]
            by_cases b4 : d ≤ 100
            · rw [if_pos b4, if_pos hf]
              by_cases b5 : f < 0
              · rw [if_pos b5]
              · rw [if_neg b5, h1, if_pos (by unfold zr; omega)]
                by_cases b6 : v_F (a_V A) < t
                · rw [if_pos b6]
                · rw [if_neg b6, if_pos (by unfold zr; omega), if_neg (by omega)]
            · rw [if_neg b4]
    · unfold f_X6_mark f_X6_mark_b40
      rw [hik, z_bd]
      by_cases b1 : 0 ≤ k ∧ k ≤ 3
      · rw [if_pos b1, if_pos (by decide), if_neg (by omega), if_pos hf]
        by_cases b2 : f < 0
        · rw [if_pos b2]
        · rw [if_neg b2, if_pos (by omega), h7, if_pos (by unfold zr; omega)]
          by_cases b3 : v_F (a_V A) < t
          · rw [if_pos b3]
          · rw [if_neg b3, if_pos (by unfold zr; omega)]
            by_cases b4 : t ≤ f
            · rw [if_pos b4]
            · rw [if_neg b4, hid, z_bd, if_neg (show ¬ (0 ≤ d ∧ d ≤ 100) by omega), if_pos (by decide), if_neg (by omega)]
      · rw [if_neg b1, if_pos (by decide), if_pos rfl]
