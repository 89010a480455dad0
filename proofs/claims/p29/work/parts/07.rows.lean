/-! STATIC CALLS, MATH, COPIES, SWITCHES, ROWS OF REFERENCES -/
section
variable {C : zC} {cc : ByteArray} {own : String} {sd : Nat} {σ : zS} {pc : Nat} {lv : List (Nat × Value)} {st : List Value} {α : Type} {r : α}
/-- the words of a call of a static method -/
def z_cs (own : String) (idx : Nat) (y : MethodName) (cc : ByteArray) (nL : Nat) (ret : Option FieldType) (n : Nat) : Prop :=
  (∀ w ∈ va_wsS own idx y (.code y cc nL ret :: z_ws), w ∈ z_ws) ∧ (y.cls ≠ "java/lang/invoke/MethodHandle" ∧ y.cls ≠ "java/lang/invoke/VarHandle" ∧ (parseMethodDescriptor y.desc).map (fun d => d.parameters.length) = some n)
theorem z_cs_of {own : String} {idx : Nat} {y : MethodName} {cc : ByteArray} {nL : Nat} {ret : Option FieldType} {n : Nat} (w1 : Cond.methodLink own idx y ∈ z_ws) (w2 : Cond.static y ∈ z_ws) (w4 : Cond.initialized y.cls ∈ z_ws) (w5 : Cond.code y cc nL ret ∈ z_ws) (hd : y.cls ≠ "java/lang/invoke/MethodHandle" ∧ y.cls ≠ "java/lang/invoke/VarHandle" ∧ (parseMethodDescriptor y.desc).map (fun d => d.parameters.length) = some n) : z_cs own idx y cc nL ret n := by
  refine ⟨fun w hw => ?_, hd⟩
  rcases List.mem_append.mp hw with h | h
  · rcases List.mem_cons.mp h with rfl | h
    · exact w1
    rcases List.mem_cons.mp h with rfl | h
    · exact w2
    rcases List.mem_cons.mp h with rfl | h
    · exact w4
    cases h
  · rcases List.mem_cons.mp h with rfl | h
    · exact w5
    · exact h
theorem z_calls (hx : z_ok C cc own sd) {y : MethodName} {cc' : ByteArray} {nL' n idx : Nat} {ret' : Option FieldType} {rm' : Room} {As : List Value} {r0 : Int} {σ1 : zS}
    (hM : z_Met (z_l C) y cc' nL' ret' rm' (z_g C) As σ (z_QI (z_g C) r0 σ1)) (hw : z_cs own idx y cc' nL' ret' n) (hR : rm'.frames + 1 ≤ (z_R C).frames ∧ 8 + (nL' + 11) + rm'.locals ≤ (z_R C).locals) (hrc : rm'.cells = 0 ∧ rm'.slots = 0) (hn : As.length = n)
    {stk : List Value} (hst : stk = As.reverse ++ st) (hsum : (st.map fun v => v.category).sum ≤ 8) (hd : decode cc pc = .ok (.invokestatic idx, 3)) (kk : z_W C σ1 (pc + 3) lv (.int (zi r0) :: st)) : z_W C σ pc lv stk := by
  obtain ⟨p, l, e, R, s, m, args, below, meth, c, Q, cells, slots, A, H0, nL, g⟩ := C
  intro H locs ls hP hS hl
  have hF := z_free (g := g) (σ := σ) (hx.2.2.2.2.2.2.1 σ) hx.2.2.2.2.2.2.2.1 hS
  obtain ⟨h1, h2, h3, h4, h5, h6, h7, h8, h9, h10, h11, h12⟩ := hx
  refine va_calli (va_runS (As := As) (rest := st) ⟨h1, h2, h3, h4, h5⟩ (hM H.size) (va_cwS n h5 (fun w h => ⟨hw.1 w h, good_of_word (List.mem_filter.mp (hw.1 w h)).2⟩) rfl hrc.1 hrc.2 hw.2 hR) ⟨z_blind, fun U hU hW => ⟨rfl, by rw [hU], by rw [hU]; exact hP, va_K.moved hW.alike h6, (h7 σ).weaken (fun _ _ _ _ => trivial)⟩⟩ rfl hn hl.1 hst (lv_room hsum) hd ⟨h10, h11⟩) hS (fun q _ h => hF q h) hF (fun r1 u t H1 locs1 ht hvm hw1 hB hz1 hk1 hS1 => ?_)
  obtain ⟨rfl, rfl⟩ := hw1
  obtain ⟨hP1, hK1, hD1⟩ := hB
  rw [ht] at hP1
  exact kk H1 locs1 ls hP1 hS1 hl
theorem z_max (hx : z_ok C cc own sd) {a b : Int} {A : Option α} {index : Nat} (w1 : Cond.methodLink own index Lib.Math.max.name ∈ z_ws) (w2 : Cond.static Lib.Math.max.name ∈ z_ws) (w3 : Cond.initialized "java/lang/Math" ∈ z_ws) (w4 : Cond.code Lib.Math.max.name Lib.Math.max.code 2 (some .int) ∈ z_ws) (hR : 1 ≤ (z_R C).frames ∧ 21 ≤ (z_R C).locals) (hsum : (st.map fun v => v.category).sum ≤ 8) (hd : decode cc pc = .ok (.invokestatic index, 3)) (h : (if zr a ∧ zr b then A else none) = some r) (kk : A = some r → z_W C σ (pc + 3) lv (.int (zi (if a < b then b else a)) :: st)) : z_W C σ pc lv (.int (zi b) :: .int (zi a) :: st) := by
  obtain ⟨⟨ha, hb⟩, h⟩ := z_gd h
  have kk := kk h
  obtain ⟨p, l, e, R, s, m, args, below, meth, c, Q, cells, slots, A, H0, nL, g⟩ := C
  intro H locs ls hP hS hl
  obtain ⟨h1, h2, h3, h4, h5, h6, h7, h8, h9, h10, h11, h12⟩ := hx
  refine va_mmax h1 h2 (by rw [h3, hl.1]) h4 (h5 _ w1) (h5 _ w2) (h5 _ w3) (h5 _ w4) hR.1 (by have : 21 ≤ R.locals := hR.2; omega) h10 h11 hd ?_
  have e9 : (if zi a < zi b then zi b else zi a) = zi (if a < b then b else a) := by
    by_cases h9 : a < b
    · rw [if_pos h9, if_pos ((zi_lt ha hb).mpr h9)]
    · rw [if_neg h9, if_neg (fun h8 => h9 ((zi_lt ha hb).mp h8))]
  rw [e9]
  exact kk H locs ls hP hS hl
theorem z_min (hx : z_ok C cc own sd) {a b : Int} {A : Option α} {index : Nat} (w1 : Cond.methodLink own index Lib.Math.min.name ∈ z_ws) (w2 : Cond.static Lib.Math.min.name ∈ z_ws) (w3 : Cond.initialized "java/lang/Math" ∈ z_ws) (w4 : Cond.code Lib.Math.min.name Lib.Math.min.code 2 (some .int) ∈ z_ws) (hR : 1 ≤ (z_R C).frames ∧ 21 ≤ (z_R C).locals) (hsum : (st.map fun v => v.category).sum ≤ 8) (hd : decode cc pc = .ok (.invokestatic index, 3)) (h : (if zr a ∧ zr b then A else none) = some r) (kk : A = some r → z_W C σ (pc + 3) lv (.int (zi (if b < a then b else a)) :: st)) : z_W C σ pc lv (.int (zi b) :: .int (zi a) :: st) := by
  obtain ⟨⟨ha, hb⟩, h⟩ := z_gd h
  have kk := kk h
  obtain ⟨p, l, e, R, s, m, args, below, meth, c, Q, cells, slots, A, H0, nL, g⟩ := C
  intro H locs ls hP hS hl
  obtain ⟨h1, h2, h3, h4, h5, h6, h7, h8, h9, h10, h11, h12⟩ := hx
  refine va_mmin h1 h2 (by rw [h3, hl.1]) h4 (h5 _ w1) (h5 _ w2) (h5 _ w3) (h5 _ w4) hR.1 (by have : 21 ≤ R.locals := hR.2; omega) h10 h11 hd ?_
  have e9 : (if zi b < zi a then zi b else zi a) = zi (if b < a then b else a) := by
    by_cases h9 : b < a
    · rw [if_pos h9, if_pos ((zi_lt hb ha).mpr h9)]
    · rw [if_neg h9, if_neg (fun h8 => h9 ((zi_lt hb ha).mp h8))]
  rw [e9]
  exact kk H locs ls hP hS hl
theorem z_abs (hx : z_ok C cc own sd) {a : Int} {A : Option α} {index : Nat} (w1 : Cond.methodLink own index Lib.Math.abs.name ∈ z_ws) (w2 : Cond.static Lib.Math.abs.name ∈ z_ws) (w3 : Cond.initialized "java/lang/Math" ∈ z_ws) (w4 : Cond.code Lib.Math.abs.name Lib.Math.abs.code 1 (some .int) ∈ z_ws) (hR : 1 ≤ (z_R C).frames ∧ 21 ≤ (z_R C).locals) (hsum : (st.map fun v => v.category).sum ≤ 8) (hd : decode cc pc = .ok (.invokestatic index, 3)) (h : (if zr a then A else none) = some r) (kk : A = some r → z_W C σ (pc + 3) lv (.int (zi (if 0 ≤ a then a else 0 - a)) :: st)) : z_W C σ pc lv (.int (zi a) :: st) := by
  obtain ⟨ha, h⟩ := z_gd h
  have kk := kk h
  obtain ⟨p, l, e, R, s, m, args, below, meth, c, Q, cells, slots, A, H0, nL, g⟩ := C
  intro H locs ls hP hS hl
  obtain ⟨h1, h2, h3, h4, h5, h6, h7, h8, h9, h10, h11, h12⟩ := hx
  refine va_mabs h1 h2 (by rw [h3, hl.1]) h4 (h5 _ w1) (h5 _ w2) (h5 _ w3) (h5 _ w4) hR.1 (by have : 21 ≤ R.locals := hR.2; omega) h10 h11 hd ?_
  have e0 : (0 : Int32) ≤ zi a ↔ 0 ≤ a := zi_le zr_0 ha
  have e9 : (if 0 ≤ zi a then zi a else 0 - zi a) = zi (if 0 ≤ a then a else 0 - a) := by
    by_cases h9 : 0 ≤ a
    · rw [if_pos h9, if_pos (e0.mpr h9)]
    · rw [if_neg h9, if_neg (fun h8 => h9 (e0.mp h8))]
      exact zi_sub 0 a
  rw [e9]
  exact kk H locs ls hP hS hl
theorem z_cpy_row (σ : zS) (k1 : Nat) (i1 : Int) (k2 : Nat) (i2 n : Int) : z_cpy σ k1 i1 k2 i2 n k2 = fun b => if i2 ≤ b ∧ b < i2 + n then σ k1 (i1 + (b - i2)) else σ k2 b := by
  funext b; simp [z_cpy]
theorem z_cpy_ne (σ : zS) (k1 : Nat) (i1 : Int) (k2 : Nat) (i2 n : Int) (a : Nat) (h : a ≠ k2) : z_cpy σ k1 i1 k2 i2 n a = σ a := by
  funext b; simp [z_cpy, h]
theorem z_ar_cpy {f g : Int → Int} {a b n : Int} (ha : 0 ≤ a ∧ a < 2147483648) (hb : 0 ≤ b ∧ b < 2147483648) (hn : 0 ≤ n ∧ n < 2147483648) : va_cpy (z_ar f) (z_ar g) (zi a).toNatClampNeg (zi b).toNatClampNeg (zi n).toNatClampNeg = z_ar (fun j => if b ≤ j ∧ j < b + n then f (a + (j - b)) else g j) := by
  funext j
  rw [zi_clamp ha.1 ha.2, zi_clamp hb.1 hb.2, zi_clamp hn.1 hn.2]
  simp only [va_cpy, z_ar]
  by_cases h : b.toNat ≤ j ∧ j < b.toNat + n.toNat
  · rw [if_pos h, if_pos (by omega)]
    exact congrArg (fun z => zi (f z)) (by omega)
  · rw [if_neg h, if_neg (by omega)]
theorem z_copyi (hx : z_ok C cc own sd) {k1 k2 N1 N2 : Nat} {n1 n2 : Int} (hk1 : k1 < z_N (z_g C)) (hk2 : k2 < z_N (z_g C)) (hm1 : z_mk (z_g C) k1 (σ k1) = .inl ((z_g C).2.2.1, N1, .inl (z_ar (σ k1)))) (hm2 : ∀ f, z_mk (z_g C) k2 f = .inl ((z_g C).2.2.1, N2, .inl (z_ar f))) (hN1 : (N1 : Int) = n1) (hN2 : (N2 : Int) = n2) (hb1 : n1 ≤ 2147483647) (hb2 : n2 ≤ 2147483647) {a b n : Int} {K : zS → Option α} {index : Nat} (w1 : Cond.methodLink own index arraycopyName ∈ z_ws) (w2 : Cond.native arraycopyName ∈ z_ws) (w3 : Cond.static arraycopyName ∈ z_ws) (w4 : Cond.initialized "java/lang/System" ∈ z_ws) (hR : 1 ≤ (z_R C).frames ∧ 8 + (nativeFrameWords "java/lang/System" "arraycopy" 5 + 11) ≤ (z_R C).locals) (hsum : (st.map fun v => v.category).sum ≤ 8)
    (hd : decode cc pc = .ok (.invokestatic index, 3)) (h : (if 0 ≤ a ∧ 0 ≤ b ∧ 0 ≤ n ∧ a + n ≤ n1 ∧ b + n ≤ n2 then z_copy σ k1 a k2 b n K else none) = some r) (kk : ∀ σ1, K σ1 = some r → z_W C σ1 (pc + 3) lv st) : z_W C σ pc lv (.int (zi n) :: .int (zi b) :: .ref (z_ad (z_g C) k2) :: .int (zi a) :: .ref (z_ad (z_g C) k1) :: st) := by
  obtain ⟨⟨a0, b0, n0, ha, hb⟩, h⟩ := z_gd h
  have kk := kk _ h
  obtain ⟨p, l, e, R, s, m, args, below, meth, c, Q, cells, slots, A, H0, nL, g⟩ := C
  intro H locs ls hP hS hl
  have he1 := z_wd_get (mk := z_mk g) (ad := g.2.1) (σ := σ) hk1
  have he2 := z_wd_get (mk := z_mk g) (ad := g.2.1) (σ := σ) hk2
  rw [hm1] at he1
  rw [hm2] at he2
  obtain ⟨h1, h2, h3, h4, h5, h6, h7, h8, h9, h10, h11, h12⟩ := hx
  have hra : zr a := ⟨by omega, by omega⟩
  have hrb : zr b := ⟨by omega, by omega⟩
  have hrn : zr n := ⟨by omega, by omega⟩
  refine va_copyi h1 h2 (by rw [h3, hl.1]) h4 (h5 _ w1) (h5 _ w2) (h5 _ w3) (h5 _ w4) h6 hP (h7 σ) hS k1 k2 0 0 (ty := .int) he1 he2 rfl rfl rfl (by rw [zi_neg_iff hra]; omega) (by rw [zi_neg_iff hrb]; omega) (by rw [zi_neg_iff hrn]; omega) (by rw [zi_clamp a0 (by omega), zi_clamp n0 (by omega)]; omega) (by rw [zi_clamp b0 (by omega), zi_clamp n0 (by omega)]; omega) (fun _ _ => rfl) hR.1 (by have h9 : 8 + (nativeFrameWords "java/lang/System" "arraycopy" 5 + 11) ≤ R.locals := hR.2; omega) hd (fun H1 locs1 hP1 hD1 hS1 => ?_)
  refine kk H1 locs1 ls ?_ hS1 hl
  rw [z_ar_cpy ⟨a0, by omega⟩ ⟨b0, by omega⟩ ⟨n0, by omega⟩] at hP1
  have e1 := z_wd_set (mk := z_mk g) (N := z_N g) (ad := g.2.1) (σ := σ) (τ := z_cpy σ k1 a k2 b n) (k := k2) (e := .inl (g.2.2.1, N2, .inl (z_ar (fun j => if b ≤ j ∧ j < b + n then σ k1 (a + (j - b)) else σ k2 j)))) (by rw [z_cpy_row]; exact (hm2 _).symm) (fun a' ha' => z_cpy_ne σ k1 a k2 b n a' ha')
  show va_P g.2.2.2.2.2 vwCl (z_wd (z_mk g) (z_N g) g.2.1 (z_cpy σ k1 a k2 b n)) H1
  rw [← e1]
  exact hP1
theorem z_tswOut (hx : z_ok C cc own sd) {dflt lo hi : Int} {offs : Array Int} {len : Nat} {a : Int} {tgt : Nat} (hd : decode cc pc = .ok (.tableswitch dflt lo hi offs, len)) (hr : zr a) (h : a < lo ∨ hi < a) (ht : (pc : Int) + dflt = (tgt : Int)) (kk : z_W C σ tgt lv st) : z_W C σ pc lv (.int (zi a) :: st) := by
  obtain ⟨p, l, e, R, s, m, args, below, meth, c, Q, cells, slots, A, H0, nL, g⟩ := C
  intro H locs ls hP hS hl
  exact lv_tableOut hx.1 hx.2.1 hd (by rw [zi_int hr]; exact h) ht (kk H locs ls hP hS hl)
theorem z_tswIn (hx : z_ok C cc own sd) {dflt lo hi : Int} {offs : Array Int} {len : Nat} {a : Int} {off : Int} {tgt : Nat} (hd : decode cc pc = .ok (.tableswitch dflt lo hi offs, len)) (hr : zr a) (h1 : ¬ a < lo) (h2 : ¬ hi < a) (ho : offs[(a - lo).toNat]? = some off) (ht : (pc : Int) + off = (tgt : Int)) (kk : z_W C σ tgt lv st) : z_W C σ pc lv (.int (zi a) :: st) := by
  obtain ⟨p, l, e, R, s, m, args, below, meth, c, Q, cells, slots, A, H0, nL, g⟩ := C
  intro H locs ls hP hS hl
  exact lv_tableIn hx.1 hx.2.1 hd (by rw [zi_int hr]; exact h1) (by rw [zi_int hr]; exact h2) (by rw [zi_int hr]; exact ho) ht (kk H locs ls hP hS hl)
theorem z_lookup (hx : z_ok C cc own sd) {dflt : Int} {ps : Array (Int × Int)} {len : Nat} {a : Int} {off : Int} {tgt : Nat} (hd : decode cc pc = .ok (.lookupswitch dflt ps, len)) (hp : (ps.toList.zip (ps.toList.drop 1)).all (fun (a, next) => a.1 < next.1) = true) (hr : zr a) (ho : Op.lookupswitch.offset ps.toList dflt a = off) (ht : (pc : Int) + off = (tgt : Int)) (kk : z_W C σ tgt lv st) : z_W C σ pc lv (.int (zi a) :: st) := by
  obtain ⟨p, l, e, R, s, m, args, below, meth, c, Q, cells, slots, A, H0, nL, g⟩ := C
  intro H locs ls hP hS hl
  exact lv_lookup hx.1 hx.2.1 hd hp (by rw [zi_int hr]; exact ho) ht (kk H locs ls hP hS hl)
end
