/-! ROWS OF A STATIC ROW OF NUMBERS, AND OF FLOATS -/
/-- the row of numbers behind a static field: outside of all that is written -/
def z_Sr (n : String) (f : Int → Int) (gs : Nat) (A : Nat → Prop) (U : State) : Prop := va_Z "SpeechCleaner" n "[I" (.ref gs) A U U.heap ∧ va_X gs 7 (fun j => zi (f (j : Int))) U U.heap ∧ gs < U.heap.size ∧ ¬ A gs
def z_St (C : zC) (gs : Nat) : Prop := match C with
  | (_, _, _, _, s, _, _, _, _, _, _, _, _, A, _, _, _) => z_Sr "GREATEST_SETTINGS" z_most gs A s
theorem z_gets {C : zC} {cc : ByteArray} {own : String} {sd : Nat} {σ : zS} {pc : Nat} {lv : List (Nat × Value)} {st : List Value} (hx : z_ok C cc own sd) {gs index : Nat} (hSt : z_St C gs) (hw : Cond.fieldLink own index RX5 "GREATEST_SETTINGS" "[I" ∈ z_ws) (hd : decode cc pc = .ok (.getstatic index, 3)) (kk : z_W C σ (pc + 3) lv (.ref gs :: st)) : z_W C σ pc lv st := by
  obtain ⟨p, l, e, R, s, m, args, below, meth, c, Q, cells, slots, A, H0, nL, g⟩ := C
  intro H locs ls hP hS hl
  obtain ⟨h1, h2, h3, h4, h5, h6, h7, h8, h9, h10, h11, rfl⟩ := hx
  exact va_gets h1 h2 hSt.1 hS h4 (h5 _ hw) (fun x h => h) hd (kk H locs ls hP hS hl)
theorem z_sald {C : zC} {cc : ByteArray} {own : String} {sd : Nat} {σ : zS} {pc : Nat} {lv : List (Nat × Value)} {st : List Value} {α : Type} {r : α} (hx : z_ok C cc own sd) {gs : Nat} (hSt : z_St C gs) {i : Int} {A : Option α} (hd : decode cc pc = .ok (.iaload, 1)) (h : (if 0 ≤ i ∧ i < 7 then A else none) = some r) (kk : A = some r → z_W C σ (pc + 1) lv (.int (zi (z_most i)) :: st)) : z_W C σ pc lv (.int (zi i) :: .ref gs :: st) := by
  obtain ⟨⟨i0, i1⟩, h⟩ := z_gd h
  have kk := kk h
  obtain ⟨p, l, e, R, s, m, args, below, meth, c, Q, cells, slots, A, H0, nL, g⟩ := C
  intro H locs ls hP hS hl
  obtain ⟨h1, h2, h3, h4, h5, h6, h7, h8, h9, h10, h11, rfl⟩ := hx
  refine va_sld h1 h2 hSt.2.1 hSt.2.2.1 hSt.2.2.2 hS (zi_in i0 (by omega) (by omega)) hd ?_
  have hee : zi (z_most (((zi i).toNatClampNeg : Nat) : Int)) = zi (z_most i) := by rw [zi_clamp i0 (by omega), Int.toNat_of_nonneg i0]
  show W p l e R s m args below meth c H locs cells slots Q (F0 m (pc + 1) ls (.int (zi (z_most (((zi i).toNatClampNeg : Nat) : Int))) :: st))
  rw [hee]
  exact kk H locs ls hP hS hl
def z_f (a : Int) : UInt32 := FP.i2f (zi a)
theorem z_i2f {C : zC} {cc : ByteArray} {own : String} {sd : Nat} {σ : zS} {pc : Nat} {lv : List (Nat × Value)} {st : List Value} (hx : z_ok C cc own sd) {a : Int} (hd : decode cc pc = .ok (.i2f, 1)) (kk : z_W C σ (pc + 1) lv (.float (z_f a) :: st)) : z_W C σ pc lv (.int (zi a) :: st) := by
  obtain ⟨p, l, e, R, s, m, args, below, meth, c, Q, cells, slots, A, H0, nL, g⟩ := C
  intro H locs ls hP hS hl
  exact lv_i2f hx.1 hx.2.1 hd (kk H locs ls hP hS hl)
-- what two floats' comparison comes to, when both are alike to one number
theorem z_nan64 (a : UInt64) : isNaN64 a = true ↔ FP.dIsNaN a = true := by
  rw [isNaN64_iff, FP.Core.isNaN_bits, show (0x7fffffffffffffff : Nat) = 2 ^ 63 - 1 by decide, Nat.and_two_pow_sub_one_eq_mod]
theorem z_nan32 (a : UInt32) : isNaN32 a = true ↔ FP.fIsNaN a = true := by
  rw [isNaN32_iff, FP.Core.isNaN_bits32, show (0x7fffffff : Nat) = 2 ^ 31 - 1 by decide, Nat.and_two_pow_sub_one_eq_mod]
theorem z_falike {r1 r2 X : UInt32} {d1 d2 : UInt64} (h1 : alike32 r1 X = true) (h2 : alike32 r2 X = true) (k1 : alike64 d1 (FP.f2d r1) = true) (k2 : alike64 d2 (FP.f2d r2) = true) : (Op.cmpValue (FP.dcmp d1 d2) .l = 0) ∨ (Op.cmpValue (FP.dcmp d1 d1) .l ≠ 0 ∧ Op.cmpValue (FP.dcmp d2 d2) .l ≠ 0) := by
  have hn : ∀ d : UInt64, FP.dIsNaN d = true → Op.cmpValue (FP.dcmp d d) .l ≠ 0 := fun d h => by
    rw [FP.dcmp_core, (FP.Core.dcmp_none d d).mpr (Or.inl ((FP.Core.dIsNaN_iff d).mp h))]
    decide
  have hs : ∀ d : UInt64, FP.dIsNaN d ≠ true → Op.cmpValue (FP.dcmp d d) .l = 0 := fun d h => by
    rw [FP.dcmp_core, FP.Core.dcmp_self (fun e => h ((FP.Core.dIsNaN_iff d).mpr e))]
    rfl
  have hc : ∀ {d : UInt64} {r : UInt32}, alike64 d (FP.f2d r) = true → FP.fIsNaN r = true → FP.dIsNaN d = true := fun {d r} h hr => by
    have hf : FP.dIsNaN (FP.f2d r) = true := by rw [FP.f2d_nan]; exact hr
    simp only [alike64, Bool.or_eq_true, decide_eq_true_eq, Bool.and_eq_true] at h
    rcases h with h | h
    · rw [h]; exact hf
    · exact (z_nan64 d).mp h.1
  simp only [alike32, Bool.or_eq_true, decide_eq_true_eq, Bool.and_eq_true] at h1 h2
  by_cases e : FP.fIsNaN X = true
  · have g1 : FP.fIsNaN r1 = true := by
      rcases h1 with h | h
      · rw [h]; exact e
      · exact (z_nan32 r1).mp h.1
    have g2 : FP.fIsNaN r2 = true := by
      rcases h2 with h | h
      · rw [h]; exact e
      · exact (z_nan32 r2).mp h.1
    exact Or.inr ⟨hn _ (hc k1 g1), hn _ (hc k2 g2)⟩
  · have g1 : r1 = X := by
      rcases h1 with h | h
      · exact h
      · exact absurd ((z_nan32 X).mp h.2) e
    have g2 : r2 = X := by
      rcases h2 with h | h
      · exact h
      · exact absurd ((z_nan32 X).mp h.2) e
    subst g1
    subst g2
    have hf : FP.dIsNaN (FP.f2d r2) ≠ true := by rw [FP.f2d_nan]; exact e
    have q : ∀ d : UInt64, alike64 d (FP.f2d r2) = true → d = FP.f2d r2 := fun d h => by
      simp only [alike64, Bool.or_eq_true, decide_eq_true_eq, Bool.and_eq_true] at h
      rcases h with h | h
      · exact h
      · exact absurd ((z_nan64 _).mp h.2) hf
    rw [q d1 k1, q d2 k2]
    exact Or.inl (hs _ hf)
