/-! A ROW FOR EACH INSTRUCTION over a world whose objects stay -/
section
variable {C : zC} {cc : ByteArray} {own : String} {sd : Nat} {σ : zS} {pc : Nat} {lv : List (Nat × Value)} {st : List Value} {α : Type} {r : α}
theorem z_iconst (hx : z_ok C cc own sd) {n : Int} (hd : decode cc pc = .ok (.iconst n, 1)) (kk : z_W C σ (pc + 1) lv (.int (zi n) :: st)) : z_W C σ pc lv st := by
  obtain ⟨p, l, e, R, s, m, args, below, meth, c, Q, cells, slots, A, H0, nL, g⟩ := C
  intro H locs ls hP hS hl
  exact lv_iconst hx.1 hx.2.1 hd rfl (kk H locs ls hP hS hl)
theorem z_bipush (hx : z_ok C cc own sd) {n : Int} (hd : decode cc pc = .ok (.bipush n, 2)) (hn : (Int8.ofInt n).toInt32 = zi n) (kk : z_W C σ (pc + 2) lv (.int (zi n) :: st)) : z_W C σ pc lv st := by
  obtain ⟨p, l, e, R, s, m, args, below, meth, c, Q, cells, slots, A, H0, nL, g⟩ := C
  intro H locs ls hP hS hl
  exact lv_bipush hx.1 hx.2.1 hd hn (kk H locs ls hP hS hl)
theorem z_sipush (hx : z_ok C cc own sd) {n : Int} (hd : decode cc pc = .ok (.sipush n, 3)) (hn : (Int16.ofInt n).toInt32 = zi n) (kk : z_W C σ (pc + 3) lv (.int (zi n) :: st)) : z_W C σ pc lv st := by
  obtain ⟨p, l, e, R, s, m, args, below, meth, c, Q, cells, slots, A, H0, nL, g⟩ := C
  intro H locs ls hP hS hl
  exact lv_sipush hx.1 hx.2.1 hd hn (kk H locs ls hP hS hl)
theorem z_ldc (hx : z_ok C cc own sd) {n : Int} {index : Nat} (hw : Cond.constant own index (zi n) ∈ z_ws) (hd : decode cc pc = .ok (.ldc index, 2)) (kk : z_W C σ (pc + 2) lv (.int (zi n) :: st)) : z_W C σ pc lv st := by
  obtain ⟨p, l, e, R, s, m, args, below, meth, c, Q, cells, slots, A, H0, nL, g⟩ := C
  intro H locs ls hP hS hl
  exact lv_ldc hx.1 hx.2.1 hx.2.2.2.1 (hx.2.2.2.2.1 _ hw) hd (kk H locs ls hP hS hl)
theorem z_ldc2 (hx : z_ok C cc own sd) {n : Int} {index : Nat} (hw : Cond.constantLong own index (zl n) ∈ z_ws) (hd : decode cc pc = .ok (.ldc2_w index, 3)) (kk : z_W C σ (pc + 3) lv (.long (zl n) :: st)) : z_W C σ pc lv st := by
  obtain ⟨p, l, e, R, s, m, args, below, meth, c, Q, cells, slots, A, H0, nL, g⟩ := C
  intro H locs ls hP hS hl
  exact lv_ldc2 hx.1 hx.2.1 hx.2.2.2.1 (hx.2.2.2.2.1 _ hw) hd (kk H locs ls hP hS hl)
-- locals
theorem z_iload_n (hx : z_ok C cc own sd) (q : Nat) {k : Fin 4} {x : Int32} (hd : decode cc pc = .ok (.iload_n k, 1)) (hk : lv[q]? = some ((k : Nat), .int x)) (kk : z_W C σ (pc + 1) lv (.int x :: st)) : z_W C σ pc lv st := by
  obtain ⟨p, l, e, R, s, m, args, below, meth, c, Q, cells, slots, A, H0, nL, g⟩ := C
  intro H locs ls hP hS hl
  exact lv_iload_n hx.1 hx.2.1 hd rfl (lv_at hl q hk) (kk H locs ls hP hS hl)
theorem z_iload (hx : z_ok C cc own sd) (q : Nat) {k : Nat} {x : Int32} (hd : decode cc pc = .ok (.iload k, 2)) (hk : lv[q]? = some (k, .int x)) (kk : z_W C σ (pc + 2) lv (.int x :: st)) : z_W C σ pc lv st := by
  obtain ⟨p, l, e, R, s, m, args, below, meth, c, Q, cells, slots, A, H0, nL, g⟩ := C
  intro H locs ls hP hS hl
  exact lv_iload hx.1 hx.2.1 hd (lv_at hl q hk) (kk H locs ls hP hS hl)
theorem z_lload_n (hx : z_ok C cc own sd) (q : Nat) {k : Fin 4} {x : Int64} (hd : decode cc pc = .ok (.lload_n k, 1)) (hk : lv[q]? = some ((k : Nat), .long x)) (kk : z_W C σ (pc + 1) lv (.long x :: st)) : z_W C σ pc lv st := by
  obtain ⟨p, l, e, R, s, m, args, below, meth, c, Q, cells, slots, A, H0, nL, g⟩ := C
  intro H locs ls hP hS hl
  exact lv_lload_n hx.1 hx.2.1 hd rfl (lv_at hl q hk) (kk H locs ls hP hS hl)
theorem z_lload (hx : z_ok C cc own sd) (q : Nat) {k : Nat} {x : Int64} (hd : decode cc pc = .ok (.lload k, 2)) (hk : lv[q]? = some (k, .long x)) (kk : z_W C σ (pc + 2) lv (.long x :: st)) : z_W C σ pc lv st := by
  obtain ⟨p, l, e, R, s, m, args, below, meth, c, Q, cells, slots, A, H0, nL, g⟩ := C
  intro H locs ls hP hS hl
  exact lv_lload hx.1 hx.2.1 hd (lv_at hl q hk) (kk H locs ls hP hS hl)
theorem z_aload_n (hx : z_ok C cc own sd) (q : Nat) {k : Fin 4} {x : Nat} (hd : decode cc pc = .ok (.aload_n k, 1)) (hk : lv[q]? = some ((k : Nat), .ref x)) (kk : z_W C σ (pc + 1) lv (.ref x :: st)) : z_W C σ pc lv st := by
  obtain ⟨p, l, e, R, s, m, args, below, meth, c, Q, cells, slots, A, H0, nL, g⟩ := C
  intro H locs ls hP hS hl
  exact lv_aload_n hx.1 hx.2.1 hd rfl (lv_at hl q hk) (kk H locs ls hP hS hl)
theorem z_istore_n (hx : z_ok C cc own sd) {nL : Nat} (hn : C.2.2.2.2.2.2.2.2.2.2.2.2.2.2.2.1 = nL) {k : Fin 4} {x : Int32} {lv' : List (Nat × Value)} (hd : decode cc pc = .ok (.istore_n k, 1)) (hlt : (k : Nat) < nL) (hl' : ((k : Nat), Value.int x) :: lv.filter (fun q => !(q.1 == (k : Nat)) && !(q.1 + 1 == (k : Nat) && q.2.category == 2)) = lv') (kk : z_W C σ (pc + 1) lv' st) : z_W C σ pc lv (.int x :: st) := by
  obtain ⟨p, l, e, R, s, m, args, below, meth, c, Q, cells, slots, A, H0, nL, g⟩ := C
  intro H locs ls hP hS hl
  cases hn
  exact lv_istore_n hx.1 hx.2.1 hd rfl hl hlt hl' (fun ls' hl => kk H locs ls' hP hS hl)
theorem z_istore (hx : z_ok C cc own sd) {nL : Nat} (hn : C.2.2.2.2.2.2.2.2.2.2.2.2.2.2.2.1 = nL) {k : Nat} {x : Int32} {lv' : List (Nat × Value)} (hd : decode cc pc = .ok (.istore k, 2)) (hlt : (k : Nat) < nL) (hl' : (k, Value.int x) :: lv.filter (fun q => !(q.1 == k) && !(q.1 + 1 == k && q.2.category == 2)) = lv') (kk : z_W C σ (pc + 2) lv' st) : z_W C σ pc lv (.int x :: st) := by
  obtain ⟨p, l, e, R, s, m, args, below, meth, c, Q, cells, slots, A, H0, nL, g⟩ := C
  intro H locs ls hP hS hl
  cases hn
  exact lv_istore hx.1 hx.2.1 hd hl hlt hl' (fun ls' hl => kk H locs ls' hP hS hl)
theorem z_lstore_n (hx : z_ok C cc own sd) {nL : Nat} (hn : C.2.2.2.2.2.2.2.2.2.2.2.2.2.2.2.1 = nL) {k : Fin 4} {x : Int64} {lv' : List (Nat × Value)} (hd : decode cc pc = .ok (.lstore_n k, 1)) (hlt : (k : Nat) + 1 < nL) (hl' : ((k : Nat), Value.long x) :: lv.filter (fun q => !(q.1 == (k : Nat)) && (!(q.1 == (k : Nat) + 1) && !(q.1 + 1 == (k : Nat) && q.2.category == 2))) = lv') (kk : z_W C σ (pc + 1) lv' st) : z_W C σ pc lv (.long x :: st) := by
  obtain ⟨p, l, e, R, s, m, args, below, meth, c, Q, cells, slots, A, H0, nL, g⟩ := C
  intro H locs ls hP hS hl
  cases hn
  exact lv_lstore_n hx.1 hx.2.1 hd rfl hl hlt hl' (fun ls' hl => kk H locs ls' hP hS hl)
theorem z_lstore (hx : z_ok C cc own sd) {nL : Nat} (hn : C.2.2.2.2.2.2.2.2.2.2.2.2.2.2.2.1 = nL) {k : Nat} {x : Int64} {lv' : List (Nat × Value)} (hd : decode cc pc = .ok (.lstore k, 2)) (hlt : (k : Nat) + 1 < nL) (hl' : (k, Value.long x) :: lv.filter (fun q => !(q.1 == k) && (!(q.1 == k + 1) && !(q.1 + 1 == k && q.2.category == 2))) = lv') (kk : z_W C σ (pc + 2) lv' st) : z_W C σ pc lv (.long x :: st) := by
  obtain ⟨p, l, e, R, s, m, args, below, meth, c, Q, cells, slots, A, H0, nL, g⟩ := C
  intro H locs ls hP hS hl
  cases hn
  exact lv_lstore hx.1 hx.2.1 hd hl hlt hl' (fun ls' hl => kk H locs ls' hP hS hl)
theorem z_astore_n (hx : z_ok C cc own sd) {nL : Nat} (hn : C.2.2.2.2.2.2.2.2.2.2.2.2.2.2.2.1 = nL) {k : Fin 4} {x : Nat} {lv' : List (Nat × Value)} (hd : decode cc pc = .ok (.astore_n k, 1)) (hlt : (k : Nat) < nL) (hl' : ((k : Nat), Value.ref x) :: lv.filter (fun q => !(q.1 == (k : Nat)) && !(q.1 + 1 == (k : Nat) && q.2.category == 2)) = lv') (kk : z_W C σ (pc + 1) lv' st) : z_W C σ pc lv (.ref x :: st) := by
  obtain ⟨p, l, e, R, s, m, args, below, meth, c, Q, cells, slots, A, H0, nL, g⟩ := C
  intro H locs ls hP hS hl
  cases hn
  exact lv_astore_n hx.1 hx.2.1 hd rfl hl hlt hl' (fun ls' hl => kk H locs ls' hP hS hl)
theorem z_iinc (hx : z_ok C cc own sd) {nL : Nat} (hn : C.2.2.2.2.2.2.2.2.2.2.2.2.2.2.2.1 = nL) (q : Nat) {k : Nat} {n x : Int} {lv' : List (Nat × Value)} (hd : decode cc pc = .ok (.iinc k n, 3)) (hk : lv[q]? = some (k, .int (zi x))) (hlt : k < nL) (hl' : (k, Value.int (zi (x + n))) :: lv.filter (fun q => !(q.1 == k) && !(q.1 + 1 == k && q.2.category == 2)) = lv') (kk : z_W C σ (pc + 3) lv' st) : z_W C σ pc lv st := by
  obtain ⟨p, l, e, R, s, m, args, below, meth, c, Q, cells, slots, A, H0, nL, g⟩ := C
  intro H locs ls hP hS hl
  cases hn
  exact lv_iinc hx.1 hx.2.1 hd hl hk (zi_add x n) hlt hl' (fun ls' hl => kk H locs ls' hP hS hl)
theorem z_sub (ks : List Nat) {lv' : List (Nat × Value)} (hl' : lv_pick lv ks = lv') (kk : z_W C σ pc lv' st) : z_W C σ pc lv st := by
  obtain ⟨p, l, e, R, s, m, args, below, meth, c, Q, cells, slots, A, H0, nL, g⟩ := C
  intro H locs ls hP hS hl
  exact kk H locs ls hP hS (lv_sub hl ks hl')
-- arithmetic
theorem z_iadd (hx : z_ok C cc own sd) {a b : Int} (hd : decode cc pc = .ok (.iadd, 1)) (kk : z_W C σ (pc + 1) lv (.int (zi (a + b)) :: st)) : z_W C σ pc lv (.int (zi b) :: .int (zi a) :: st) := by
  obtain ⟨p, l, e, R, s, m, args, below, meth, c, Q, cells, slots, A, H0, nL, g⟩ := C
  intro H locs ls hP hS hl
  refine lv_iadd hx.1 hx.2.1 hd ?_
  rw [zi_add]
  exact kk H locs ls hP hS hl
theorem z_isub (hx : z_ok C cc own sd) {a b : Int} (hd : decode cc pc = .ok (.isub, 1)) (kk : z_W C σ (pc + 1) lv (.int (zi (a - b)) :: st)) : z_W C σ pc lv (.int (zi b) :: .int (zi a) :: st) := by
  obtain ⟨p, l, e, R, s, m, args, below, meth, c, Q, cells, slots, A, H0, nL, g⟩ := C
  intro H locs ls hP hS hl
  refine lv_isub hx.1 hx.2.1 hd ?_
  rw [zi_sub]
  exact kk H locs ls hP hS hl
theorem z_imul (hx : z_ok C cc own sd) {a b : Int} (hd : decode cc pc = .ok (.imul, 1)) (kk : z_W C σ (pc + 1) lv (.int (zi (a * b)) :: st)) : z_W C σ pc lv (.int (zi b) :: .int (zi a) :: st) := by
  obtain ⟨p, l, e, R, s, m, args, below, meth, c, Q, cells, slots, A, H0, nL, g⟩ := C
  intro H locs ls hP hS hl
  refine lv_imul hx.1 hx.2.1 hd ?_
  rw [zi_mul]
  exact kk H locs ls hP hS hl
theorem z_ineg (hx : z_ok C cc own sd) {a : Int} (hd : decode cc pc = .ok (.ineg, 1)) (kk : z_W C σ (pc + 1) lv (.int (zi (-a)) :: st)) : z_W C σ pc lv (.int (zi a) :: st) := by
  obtain ⟨p, l, e, R, s, m, args, below, meth, c, Q, cells, slots, A, H0, nL, g⟩ := C
  intro H locs ls hP hS hl
  refine lv_ineg hx.1 hx.2.1 hd ?_
  rw [zi_neg]
  exact kk H locs ls hP hS hl
theorem z_idiv (hx : z_ok C cc own sd) {a b : Int} {A : Option α} (hd : decode cc pc = .ok (.idiv, 1)) (h : (if zr a ∧ zr b ∧ b ≠ 0 then A else none) = some r) (kk : A = some r → z_W C σ (pc + 1) lv (.int (zi (a.tdiv b)) :: st)) : z_W C σ pc lv (.int (zi b) :: .int (zi a) :: st) := by
  obtain ⟨⟨ha, hb, hn⟩, h⟩ := z_gd h
  have kk := kk h
  obtain ⟨p, l, e, R, s, m, args, below, meth, c, Q, cells, slots, A, H0, nL, g⟩ := C
  intro H locs ls hP hS hl
  refine lv_idiv hx.1 hx.2.1 hd (fun h => hn ((zi_eq hb zr_0).mp h)) ?_
  rw [zi_div ha hb]
  exact kk H locs ls hP hS hl
theorem z_irem (hx : z_ok C cc own sd) {a b : Int} {A : Option α} (hd : decode cc pc = .ok (.irem, 1)) (h : (if zr a ∧ zr b ∧ b ≠ 0 then A else none) = some r) (kk : A = some r → z_W C σ (pc + 1) lv (.int (zi (a.tmod b)) :: st)) : z_W C σ pc lv (.int (zi b) :: .int (zi a) :: st) := by
  obtain ⟨⟨ha, hb, hn⟩, h⟩ := z_gd h
  have kk := kk h
  obtain ⟨p, l, e, R, s, m, args, below, meth, c, Q, cells, slots, A, H0, nL, g⟩ := C
  intro H locs ls hP hS hl
  refine lv_irem hx.1 hx.2.1 hd (fun h => hn ((zi_eq hb zr_0).mp h)) ?_
  rw [zi_rem ha hb]
  exact kk H locs ls hP hS hl
theorem z_iushr16 (hx : z_ok C cc own sd) {a : Int} (hd : decode cc pc = .ok (.iushr, 1)) (kk : z_W C σ (pc + 1) lv (.int (zi (z_ushr a 16)) :: st)) : z_W C σ pc lv (.int (zi 16) :: .int (zi a) :: st) := by
  obtain ⟨p, l, e, R, s, m, args, below, meth, c, Q, cells, slots, A, H0, nL, g⟩ := C
  intro H locs ls hP hS hl
  exact lv_iushr hx.1 hx.2.1 hd (zi_ushr16 a) (kk H locs ls hP hS hl)
theorem z_ladd (hx : z_ok C cc own sd) {a b : Int} (hd : decode cc pc = .ok (.ladd, 1)) (kk : z_W C σ (pc + 1) lv (.long (zl (a + b)) :: st)) : z_W C σ pc lv (.long (zl b) :: .long (zl a) :: st) := by
  obtain ⟨p, l, e, R, s, m, args, below, meth, c, Q, cells, slots, A, H0, nL, g⟩ := C
  intro H locs ls hP hS hl
  refine lv_ladd hx.1 hx.2.1 hd ?_
  rw [zl_add]
  exact kk H locs ls hP hS hl
theorem z_lmul (hx : z_ok C cc own sd) {a b : Int} (hd : decode cc pc = .ok (.lmul, 1)) (kk : z_W C σ (pc + 1) lv (.long (zl (a * b)) :: st)) : z_W C σ pc lv (.long (zl b) :: .long (zl a) :: st) := by
  obtain ⟨p, l, e, R, s, m, args, below, meth, c, Q, cells, slots, A, H0, nL, g⟩ := C
  intro H locs ls hP hS hl
  refine lv_lmul hx.1 hx.2.1 hd ?_
  rw [zl_mul]
  exact kk H locs ls hP hS hl
theorem z_i2l (hx : z_ok C cc own sd) {a : Int} {A : Option α} (hd : decode cc pc = .ok (.i2l, 1)) (h : (if zr a then A else none) = some r) (kk : A = some r → z_W C σ (pc + 1) lv (.long (zl a) :: st)) : z_W C σ pc lv (.int (zi a) :: st) := by
  obtain ⟨ha, h⟩ := z_gd h
  have kk := kk h
  obtain ⟨p, l, e, R, s, m, args, below, meth, c, Q, cells, slots, A, H0, nL, g⟩ := C
  intro H locs ls hP hS hl
  exact lv_i2l hx.1 hx.2.1 hd (zi_long ha) (kk H locs ls hP hS hl)
-- the stack
theorem z_dup (hx : z_ok C cc own sd) {va : Value} (hd : decode cc pc = .ok (.dup, 1)) (hc : va.category = 1) (kk : z_W C σ (pc + 1) lv (va :: va :: st)) : z_W C σ pc lv (va :: st) := by
  obtain ⟨p, l, e, R, s, m, args, below, meth, c, Q, cells, slots, A, H0, nL, g⟩ := C
  intro H locs ls hP hS hl
  exact lv_dup hx.1 hx.2.1 hd hc (kk H locs ls hP hS hl)
theorem z_pop (hx : z_ok C cc own sd) {va : Value} (hd : decode cc pc = .ok (.pop, 1)) (hc : va.category = 1) (kk : z_W C σ (pc + 1) lv st) : z_W C σ pc lv (va :: st) := by
  obtain ⟨p, l, e, R, s, m, args, below, meth, c, Q, cells, slots, A, H0, nL, g⟩ := C
  intro H locs ls hP hS hl
  exact lv_pop hx.1 hx.2.1 hd hc (kk H locs ls hP hS hl)
theorem z_dup2 (hx : z_ok C cc own sd) {va vb : Value} (hd : decode cc pc = .ok (.dup2, 1)) (hc : va.category = 1) (hc2 : vb.category = 1) (kk : z_W C σ (pc + 1) lv (va :: vb :: va :: vb :: st)) : z_W C σ pc lv (va :: vb :: st) := by
  obtain ⟨p, l, e, R, s, m, args, below, meth, c, Q, cells, slots, A, H0, nL, g⟩ := C
  intro H locs ls hP hS hl
  exact lv_dup2_11 hx.1 hx.2.1 hd hc hc2 (kk H locs ls hP hS hl)
theorem z_goto (hx : z_ok C cc own sd) {off : Int} {tgt : Nat} (hd : decode cc pc = .ok (.goto off, 3)) (ht : (pc : Int) + off = (tgt : Int)) (kk : z_W C σ tgt lv st) : z_W C σ pc lv st := by
  obtain ⟨p, l, e, R, s, m, args, below, meth, c, Q, cells, slots, A, H0, nL, g⟩ := C
  intro H locs ls hP hS hl
  exact lv_goto hx.1 hx.2.1 hd ht (kk H locs ls hP hS hl)
-- branches (by program)
theorem z_icmp_lt (hx : z_ok C cc own sd) {a b : Int} {off : Int} {tgt : Nat} {gd : Prop} [Decidable gd] {A B : Option α} (hd : decode cc pc = .ok (.if_icmp .lt off, 3)) (ht : (pc : Int) + off = (tgt : Int)) (h : (if gd then (if a < b then A else B) else none) = some r) (hg : gd → zr a ∧ zr b) (kt : a < b → A = some r → z_W C σ tgt lv st) (kf : ¬ (a < b) → B = some r → z_W C σ (pc + 3) lv st) : z_W C σ pc lv (.int (zi b) :: .int (zi a) :: st) := by
  obtain ⟨g9, h⟩ := z_gd h
  obtain ⟨ha, hb⟩ := hg g9
  have kt := fun hc => kt hc (by rw [if_pos hc] at h; exact h)
  have kf := fun hc => kf hc (by rw [if_neg hc] at h; exact h)
  obtain ⟨p, l, e, R, s, m, args, below, meth, c, Q, cells, slots, A0, H0, nL, g⟩ := C
  intro H locs ls hP hS hl
  exact lv_icmp_lt hx.1 hx.2.1 hd ht (fun hc => kt ((zi_lt ha hb).mp hc) H locs ls hP hS hl) (fun hc => kf (fun h9 => hc ((zi_lt ha hb).mpr h9)) H locs ls hP hS hl)
theorem z_if_lt (hx : z_ok C cc own sd) {a : Int} {off : Int} {tgt : Nat} {gd : Prop} [Decidable gd] {A B : Option α} (hd : decode cc pc = .ok (.ifCond .lt off, 3)) (ht : (pc : Int) + off = (tgt : Int)) (h : (if gd then (if a < 0 then A else B) else none) = some r) (hg : gd → zr a) (kt : a < 0 → A = some r → z_W C σ tgt lv st) (kf : ¬ (a < 0) → B = some r → z_W C σ (pc + 3) lv st) : z_W C σ pc lv (.int (zi a) :: st) := by
  obtain ⟨g9, h⟩ := z_gd h
  obtain ha := hg g9
  have hb := zr_0
  have kt := fun hc => kt hc (by rw [if_pos hc] at h; exact h)
  have kf := fun hc => kf hc (by rw [if_neg hc] at h; exact h)
  obtain ⟨p, l, e, R, s, m, args, below, meth, c, Q, cells, slots, A0, H0, nL, g⟩ := C
  intro H locs ls hP hS hl
  exact lv_if_lt hx.1 hx.2.1 hd ht (fun hc => kt ((zi_lt ha hb).mp hc) H locs ls hP hS hl) (fun hc => kf (fun h9 => hc ((zi_lt ha hb).mpr h9)) H locs ls hP hS hl)
theorem z_icmp_le (hx : z_ok C cc own sd) {a b : Int} {off : Int} {tgt : Nat} {gd : Prop} [Decidable gd] {A B : Option α} (hd : decode cc pc = .ok (.if_icmp .le off, 3)) (ht : (pc : Int) + off = (tgt : Int)) (h : (if gd then (if a ≤ b then A else B) else none) = some r) (hg : gd → zr a ∧ zr b) (kt : a ≤ b → A = some r → z_W C σ tgt lv st) (kf : ¬ (a ≤ b) → B = some r → z_W C σ (pc + 3) lv st) : z_W C σ pc lv (.int (zi b) :: .int (zi a) :: st) := by
  obtain ⟨g9, h⟩ := z_gd h
  obtain ⟨ha, hb⟩ := hg g9
  have kt := fun hc => kt hc (by rw [if_pos hc] at h; exact h)
  have kf := fun hc => kf hc (by rw [if_neg hc] at h; exact h)
  obtain ⟨p, l, e, R, s, m, args, below, meth, c, Q, cells, slots, A0, H0, nL, g⟩ := C
  intro H locs ls hP hS hl
  exact lv_icmp_le hx.1 hx.2.1 hd ht (fun hc => kt ((zi_le ha hb).mp hc) H locs ls hP hS hl) (fun hc => kf (fun h9 => hc ((zi_le ha hb).mpr h9)) H locs ls hP hS hl)
theorem z_if_le (hx : z_ok C cc own sd) {a : Int} {off : Int} {tgt : Nat} {gd : Prop} [Decidable gd] {A B : Option α} (hd : decode cc pc = .ok (.ifCond .le off, 3)) (ht : (pc : Int) + off = (tgt : Int)) (h : (if gd then (if a ≤ 0 then A else B) else none) = some r) (hg : gd → zr a) (kt : a ≤ 0 → A = some r → z_W C σ tgt lv st) (kf : ¬ (a ≤ 0) → B = some r → z_W C σ (pc + 3) lv st) : z_W C σ pc lv (.int (zi a) :: st) := by
  obtain ⟨g9, h⟩ := z_gd h
  obtain ha := hg g9
  have hb := zr_0
  have kt := fun hc => kt hc (by rw [if_pos hc] at h; exact h)
  have kf := fun hc => kf hc (by rw [if_neg hc] at h; exact h)
  obtain ⟨p, l, e, R, s, m, args, below, meth, c, Q, cells, slots, A0, H0, nL, g⟩ := C
  intro H locs ls hP hS hl
  exact lv_if_le hx.1 hx.2.1 hd ht (fun hc => kt ((zi_le ha hb).mp hc) H locs ls hP hS hl) (fun hc => kf (fun h9 => hc ((zi_le ha hb).mpr h9)) H locs ls hP hS hl)
theorem z_icmp_gt (hx : z_ok C cc own sd) {a b : Int} {off : Int} {tgt : Nat} {gd : Prop} [Decidable gd] {A B : Option α} (hd : decode cc pc = .ok (.if_icmp .gt off, 3)) (ht : (pc : Int) + off = (tgt : Int)) (h : (if gd then (if b < a then A else B) else none) = some r) (hg : gd → zr a ∧ zr b) (kt : b < a → A = some r → z_W C σ tgt lv st) (kf : ¬ (b < a) → B = some r → z_W C σ (pc + 3) lv st) : z_W C σ pc lv (.int (zi b) :: .int (zi a) :: st) := by
  obtain ⟨g9, h⟩ := z_gd h
  obtain ⟨ha, hb⟩ := hg g9
  have kt := fun hc => kt hc (by rw [if_pos hc] at h; exact h)
  have kf := fun hc => kf hc (by rw [if_neg hc] at h; exact h)
  obtain ⟨p, l, e, R, s, m, args, below, meth, c, Q, cells, slots, A0, H0, nL, g⟩ := C
  intro H locs ls hP hS hl
  exact lv_icmp_gt hx.1 hx.2.1 hd ht (fun hc => kt ((zi_lt hb ha).mp hc) H locs ls hP hS hl) (fun hc => kf (fun h9 => hc ((zi_lt hb ha).mpr h9)) H locs ls hP hS hl)
theorem z_if_gt (hx : z_ok C cc own sd) {a : Int} {off : Int} {tgt : Nat} {gd : Prop} [Decidable gd] {A B : Option α} (hd : decode cc pc = .ok (.ifCond .gt off, 3)) (ht : (pc : Int) + off = (tgt : Int)) (h : (if gd then (if 0 < a then A else B) else none) = some r) (hg : gd → zr a) (kt : 0 < a → A = some r → z_W C σ tgt lv st) (kf : ¬ (0 < a) → B = some r → z_W C σ (pc + 3) lv st) : z_W C σ pc lv (.int (zi a) :: st) := by
  obtain ⟨g9, h⟩ := z_gd h
  obtain ha := hg g9
  have hb := zr_0
  have kt := fun hc => kt hc (by rw [if_pos hc] at h; exact h)
  have kf := fun hc => kf hc (by rw [if_neg hc] at h; exact h)
  obtain ⟨p, l, e, R, s, m, args, below, meth, c, Q, cells, slots, A0, H0, nL, g⟩ := C
  intro H locs ls hP hS hl
  exact lv_if_gt hx.1 hx.2.1 hd ht (fun hc => kt ((zi_lt hb ha).mp hc) H locs ls hP hS hl) (fun hc => kf (fun h9 => hc ((zi_lt hb ha).mpr h9)) H locs ls hP hS hl)
theorem z_icmp_ge (hx : z_ok C cc own sd) {a b : Int} {off : Int} {tgt : Nat} {gd : Prop} [Decidable gd] {A B : Option α} (hd : decode cc pc = .ok (.if_icmp .ge off, 3)) (ht : (pc : Int) + off = (tgt : Int)) (h : (if gd then (if b ≤ a then A else B) else none) = some r) (hg : gd → zr a ∧ zr b) (kt : b ≤ a → A = some r → z_W C σ tgt lv st) (kf : ¬ (b ≤ a) → B = some r → z_W C σ (pc + 3) lv st) : z_W C σ pc lv (.int (zi b) :: .int (zi a) :: st) := by
  obtain ⟨g9, h⟩ := z_gd h
  obtain ⟨ha, hb⟩ := hg g9
  have kt := fun hc => kt hc (by rw [if_pos hc] at h; exact h)
  have kf := fun hc => kf hc (by rw [if_neg hc] at h; exact h)
  obtain ⟨p, l, e, R, s, m, args, below, meth, c, Q, cells, slots, A0, H0, nL, g⟩ := C
  intro H locs ls hP hS hl
  exact lv_icmp_ge hx.1 hx.2.1 hd ht (fun hc => kt ((zi_le hb ha).mp hc) H locs ls hP hS hl) (fun hc => kf (fun h9 => hc ((zi_le hb ha).mpr h9)) H locs ls hP hS hl)
theorem z_if_ge (hx : z_ok C cc own sd) {a : Int} {off : Int} {tgt : Nat} {gd : Prop} [Decidable gd] {A B : Option α} (hd : decode cc pc = .ok (.ifCond .ge off, 3)) (ht : (pc : Int) + off = (tgt : Int)) (h : (if gd then (if 0 ≤ a then A else B) else none) = some r) (hg : gd → zr a) (kt : 0 ≤ a → A = some r → z_W C σ tgt lv st) (kf : ¬ (0 ≤ a) → B = some r → z_W C σ (pc + 3) lv st) : z_W C σ pc lv (.int (zi a) :: st) := by
  obtain ⟨g9, h⟩ := z_gd h
  obtain ha := hg g9
  have hb := zr_0
  have kt := fun hc => kt hc (by rw [if_pos hc] at h; exact h)
  have kf := fun hc => kf hc (by rw [if_neg hc] at h; exact h)
  obtain ⟨p, l, e, R, s, m, args, below, meth, c, Q, cells, slots, A0, H0, nL, g⟩ := C
  intro H locs ls hP hS hl
  exact lv_if_ge hx.1 hx.2.1 hd ht (fun hc => kt ((zi_le hb ha).mp hc) H locs ls hP hS hl) (fun hc => kf (fun h9 => hc ((zi_le hb ha).mpr h9)) H locs ls hP hS hl)
theorem z_icmp_eq (hx : z_ok C cc own sd) {a b : Int} {off : Int} {tgt : Nat} {gd : Prop} [Decidable gd] {A B : Option α} (hd : decode cc pc = .ok (.if_icmp .eq off, 3)) (ht : (pc : Int) + off = (tgt : Int)) (h : (if gd then (if a = b then A else B) else none) = some r) (hg : gd → zr a ∧ zr b) (kt : a = b → A = some r → z_W C σ tgt lv st) (kf : ¬ (a = b) → B = some r → z_W C σ (pc + 3) lv st) : z_W C σ pc lv (.int (zi b) :: .int (zi a) :: st) := by
  obtain ⟨g9, h⟩ := z_gd h
  obtain ⟨ha, hb⟩ := hg g9
  have kt := fun hc => kt hc (by rw [if_pos hc] at h; exact h)
  have kf := fun hc => kf hc (by rw [if_neg hc] at h; exact h)
  obtain ⟨p, l, e, R, s, m, args, below, meth, c, Q, cells, slots, A0, H0, nL, g⟩ := C
  intro H locs ls hP hS hl
  exact lv_icmp_eq hx.1 hx.2.1 hd ht (fun hc => kt ((zi_eq ha hb).mp hc) H locs ls hP hS hl) (fun hc => kf (fun h9 => hc ((zi_eq ha hb).mpr h9)) H locs ls hP hS hl)
theorem z_if_eq (hx : z_ok C cc own sd) {a : Int} {off : Int} {tgt : Nat} {gd : Prop} [Decidable gd] {A B : Option α} (hd : decode cc pc = .ok (.ifCond .eq off, 3)) (ht : (pc : Int) + off = (tgt : Int)) (h : (if gd then (if a = 0 then A else B) else none) = some r) (hg : gd → zr a) (kt : a = 0 → A = some r → z_W C σ tgt lv st) (kf : ¬ (a = 0) → B = some r → z_W C σ (pc + 3) lv st) : z_W C σ pc lv (.int (zi a) :: st) := by
  obtain ⟨g9, h⟩ := z_gd h
  obtain ha := hg g9
  have hb := zr_0
  have kt := fun hc => kt hc (by rw [if_pos hc] at h; exact h)
  have kf := fun hc => kf hc (by rw [if_neg hc] at h; exact h)
  obtain ⟨p, l, e, R, s, m, args, below, meth, c, Q, cells, slots, A0, H0, nL, g⟩ := C
  intro H locs ls hP hS hl
  exact lv_if_eq hx.1 hx.2.1 hd ht (fun hc => kt ((zi_eq ha hb).mp hc) H locs ls hP hS hl) (fun hc => kf (fun h9 => hc ((zi_eq ha hb).mpr h9)) H locs ls hP hS hl)
theorem z_icmp_ne (hx : z_ok C cc own sd) {a b : Int} {off : Int} {tgt : Nat} {gd : Prop} [Decidable gd] {A B : Option α} (hd : decode cc pc = .ok (.if_icmp .ne off, 3)) (ht : (pc : Int) + off = (tgt : Int)) (h : (if gd then (if ¬ a = b then A else B) else none) = some r) (hg : gd → zr a ∧ zr b) (kt : ¬ a = b → A = some r → z_W C σ tgt lv st) (kf : ¬ (¬ a = b) → B = some r → z_W C σ (pc + 3) lv st) : z_W C σ pc lv (.int (zi b) :: .int (zi a) :: st) := by
  obtain ⟨g9, h⟩ := z_gd h
  obtain ⟨ha, hb⟩ := hg g9
  have kt := fun hc => kt hc (by rw [if_pos hc] at h; exact h)
  have kf := fun hc => kf hc (by rw [if_neg hc] at h; exact h)
  obtain ⟨p, l, e, R, s, m, args, below, meth, c, Q, cells, slots, A0, H0, nL, g⟩ := C
  intro H locs ls hP hS hl
  exact lv_icmp_ne hx.1 hx.2.1 hd ht (fun hc => kt ((not_congr (zi_eq ha hb)).mp hc) H locs ls hP hS hl) (fun hc => kf (Decidable.not_not.mpr ((zi_eq ha hb).mp hc)) H locs ls hP hS hl)
theorem z_if_ne (hx : z_ok C cc own sd) {a : Int} {off : Int} {tgt : Nat} {gd : Prop} [Decidable gd] {A B : Option α} (hd : decode cc pc = .ok (.ifCond .ne off, 3)) (ht : (pc : Int) + off = (tgt : Int)) (h : (if gd then (if ¬ a = 0 then A else B) else none) = some r) (hg : gd → zr a) (kt : ¬ a = 0 → A = some r → z_W C σ tgt lv st) (kf : ¬ (¬ a = 0) → B = some r → z_W C σ (pc + 3) lv st) : z_W C σ pc lv (.int (zi a) :: st) := by
  obtain ⟨g9, h⟩ := z_gd h
  obtain ha := hg g9
  have hb := zr_0
  have kt := fun hc => kt hc (by rw [if_pos hc] at h; exact h)
  have kf := fun hc => kf hc (by rw [if_neg hc] at h; exact h)
  obtain ⟨p, l, e, R, s, m, args, below, meth, c, Q, cells, slots, A0, H0, nL, g⟩ := C
  intro H locs ls hP hS hl
  exact lv_if_ne hx.1 hx.2.1 hd ht (fun hc => kt ((not_congr (zi_eq ha hb)).mp hc) H locs ls hP hS hl) (fun hc => kf (Decidable.not_not.mpr ((zi_eq ha hb).mp hc)) H locs ls hP hS hl)
end
