/-! THE LAW'S METHODS: a walk over any record of draws; floats as shares of two numbers; the script -/
abbrev y_s (C : zC) : State := C.2.2.2.2.1
/-- the configuration with another record of draws -/
abbrev y_D (C : zC) (d : Drawn) : zC := (C.1, C.2.1, C.2.2.1, C.2.2.2.1, State.setDrawn C.2.2.2.2.1 d, C.2.2.2.2.2)
abbrev y_dr (C : zC) (d : Drawn) : Prop := (y_s C).drawn.sameBut d lw_cs
-- the greatest settings' row, the script's row: where it stands, how long it is, what it holds
abbrev yE : Type := Nat × Nat × Nat × (Nat → Int32)
abbrev e_gs (E : yE) : Nat := E.1
abbrev e_b (E : yE) : Nat := E.2.1
abbrev e_L (E : yE) : Nat := E.2.2.1
abbrev e_xs (E : yE) : Nat → Int32 := E.2.2.2
def y_X (E : yE) (A : Nat → Prop) (U : State) : Prop := z_Sr "GREATEST_SETTINGS" z_most (e_gs E) A U ∧ va_X (e_b E) (e_L E) (e_xs E) U U.heap ∧ e_b E < U.heap.size ∧ ¬ A (e_b E) ∧ e_L E ≤ 260
theorem z_Sr_go {n : String} {f : Int → Int} {A B : Nat → Prop} {s U : State} {H : Heap} {locs : List Loc} {gs : Nat} (h : z_Sr n f gs A s) (hS : va_S A s.heap H locs) (hB : ∀ q, B q → A q) (hvm : s.vm.Alike U.vm) (hU : U.heap = H) : z_Sr n f gs B U := by
  subst hU
  exact ⟨((h.1.kept hS.2.1).narrow hB).moved hvm, (h.2.1.kept (hS.2.1 gs h.2.2.1 h.2.2.2)).moved hvm, Nat.lt_of_lt_of_le h.2.2.1 hS.1, fun q => h.2.2.2 (hB gs q)⟩
theorem y_X_go {E : yE} {A B : Nat → Prop} {s U : State} {H : Heap} {locs : List Loc} (h : y_X E A s) (hS : va_S A s.heap H locs) (hB : ∀ q, B q → A q) (hvm : s.vm.Alike U.vm) (hU : U.heap = H) : y_X E B U := by
  refine ⟨z_Sr_go h.1 hS hB hvm hU, ?_⟩
  subst hU
  exact ⟨(h.2.1.kept (hS.2.1 _ h.2.2.1 h.2.2.2.1)).moved hvm, Nat.lt_of_lt_of_le h.2.2.1 hS.1, fun q => h.2.2.2.1 (hB _ q), h.2.2.2.2⟩
theorem y_X_moved {E : yE} {A : Nat → Prop} {U V : State} (h : y_X E A U) (hvm : U.vm.Alike V.vm) (hU : V.heap = U.heap) : y_X E A V := by
  refine ⟨⟨?_, ?_, ?_, h.1.2.2.2⟩, ?_, ?_, h.2.2.2⟩
  · rw [hU]; exact h.1.1.moved hvm
  · rw [hU]; exact h.1.2.1.moved hvm
  · rw [hU]; exact h.1.2.2.1
  · rw [hU]; exact h.2.1.moved hvm
  · rw [hU]; exact h.2.2.1
def y_ok (C : zC) (cc : ByteArray) (own : String) (E : yE) : Prop := (∀ d, z_ok (y_D C d) cc own 0) ∧ (match C with
  | (_, _, _, _, s, _, _, _, _, _, _, _, _, A, _, _, _) => y_X E A s)
/-- the machine, whatever was drawn -/
def y_W (C : zC) (σ : zS) (pc : Nat) (lv : List (Nat × Value)) (st : List Value) : Prop := ∀ d, y_dr C d → z_W (y_D C d) σ pc lv st
/-- a law method's contract over the class' world -/
def y_Met (l : Launch) (y : MethodName) (cc : ByteArray) (nL : Nat) (ret : Option FieldType) (rm : Room) (g : zG) (E : yE) (av : List Value) (σ : zS) (Qk : (Nat → Prop) → Array Value → State → Outcome → State → Prop) : Prop :=
  ∀ sz : Nat, MetD lw_cs l y (.code y cc nL ret :: z_ws) rm (va_Pc av (fun U => z_Pre g σ sz U ∧ y_X E (va_A (z_w g σ) sz) U)) (Qk (va_A (z_w g σ) sz)) 0 0 (va_A (z_w g σ) sz)
/-- the end that is due -/
def y_fin (C : zC) (ret : Option FieldType) (Qk : (Nat → Prop) → Array Value → State → Outcome → State → Prop) : Prop := match C with
  | (_, _, _, _, s, _, args, below, meth, _, Q, cells, slots, A, _, _, _) => meth.sig.returnType = ret ∧ meth.locks = false ∧ Q = MQD lw_cs below (Qk A) args s cells slots A
theorem y_enter {l : Launch} {y : MethodName} {cc : ByteArray} {nL : Nat} {ret : Option FieldType} {rm : Room} {g : zG} {E : yE} {av : List Value} {σ : zS} {Qk : (Nat → Prop) → Array Value → State → Outcome → State → Prop} {own : String} {lv0 : List (Nat × Value)} (hy : plainName y.cls = true) (hown : y.cls = own) (hlen : (lg_sl av).length ≤ nL) (hg : g.1 = 0) (hlv : lv_args 0 av = lv0)
    (body : ∀ C : zC, y_ok C cc own E → z_l C = l → z_g C = g → z_R C = rm → z_nL C = nL → y_fin C ret Qk → y_W C σ 0 lv0 []) : y_Met l y cc nL ret rm g E av σ Qk := by
  intro sz
  refine MetD.ofW (cc := cc) (maxL := nL) (ret := ret) hy rfl ?_
  intro p e s m args below meth c s₁ B hml hv hd0
  obtain ⟨rfl, ⟨hsz, hP, hK, hD0⟩, hX⟩ := hv
  have hx := B.exec
  have hb := B.bytes
  have hr := B.returns
  have hts := atoms_spec (ws := .code y cc nL ret :: z_ws) B.pre
  have hown2 : s.vm.findClass y.cls = some m.cls := findClass_of_methodNamed B.named
  have hlocks := B.notSynchronized
  subst hsz
  have hD := hD0.self (sz := s.heap.size)
  have hl := lv_entry av (n := nL) hlen
  rw [lg_entry_eq]
  rw [hlv] at hl
  exact body (p, l, e, rm, s, m, av.toArray, below, meth, c, MQD lw_cs below (Qk (va_A (z_w g σ) s.heap.size)) av.toArray s 0 0 (va_A (z_w g σ) s.heap.size), 0, 0, va_A (z_w g σ) s.heap.size, s.heap, nL, g) ⟨fun d => ⟨hx, hb, hml, hown ▸ hown2, fun w hw => dr_words hts _ w (List.mem_cons_of_mem _ hw), hK, fun τ => z_wd_D hD, fun q h => Or.inr h, hg, Nat.zero_le _, Nat.zero_le _, rfl⟩, hX⟩ rfl rfl rfl rfl ⟨hr, hlocks, rfl⟩ s.drawn hd0 s.heap [] _ hP va_S.rf hl
/-- a bitwise and, a shift right that keeps the sign -/
def z_and (a b : Int) : Int := (zi a &&& zi b).toInt
def z_shr (a : Int) (n : Int) : Int := (zi a >>> (zi n &&& 31)).toInt
section
variable {C : zC} {d : Drawn} {cc : ByteArray} {own : String} {E : yE} {σ : zS} {pc : Nat} {lv : List (Nat × Value)} {st : List Value} {α : Type} {r : α}
theorem y_sd (hx : y_ok C cc own E) : (z_g C).1 = 0 := by
  have h := z_ok_sd (hx.1 (y_s C).drawn)
  exact h
theorem y_iret (hx : y_ok C cc own E) (hd : y_dr C d) {r0 : Int} (hq : y_fin C (some .int) (z_QI (z_g C) r0 σ)) (hdc : decode cc pc = .ok (.ireturn, 1)) : z_W (y_D C d) σ pc lv [.int (zi r0)] := by
  obtain ⟨hx, hX⟩ := hx
  have hx := hx d
  obtain ⟨p, l, e, R, s, m, args, below, meth, c, Q, cells, slots, A, H0, nL, g⟩ := C
  intro H locs ls hP hS hl
  show W p l e R (s.setDrawn d) m args below meth c H locs cells slots Q _
  have hx : z_ok (p, l, e, R, s.setDrawn d, m, args, below, meth, c, Q, cells, slots, A, H0, nL, g) cc own 0 := hx
  obtain ⟨h1, h2, h3, h4, h5, h6, h7, h8, h9, h10, h11, rfl⟩ := hx
  obtain ⟨q1, q2, q3⟩ := hq
  rw [q3]
  refine W.endD hd ?_
  exact W.iret h1 h2 q1 (fun t ht hW => ⟨⟨zi r0, σ, rfl, ⟨rfl, rfl⟩, by rw [ht]; exact hP, va_K.moved (u := s) hW.alike h6, h7 σ⟩, hS.F ht⟩) hS.2.2 hdc q2
theorem y_zret (hx : y_ok C cc own E) (hd : y_dr C d) {r0 : Int} (hz : 0 ≤ r0 ∧ r0 ≤ 1) (hq : y_fin C (some .boolean) (z_QI (z_g C) r0 σ)) (hdc : decode cc pc = .ok (.ireturn, 1)) : z_W (y_D C d) σ pc lv [.int (zi r0)] := by
  obtain ⟨hx, hX⟩ := hx
  have hx := hx d
  obtain ⟨p, l, e, R, s, m, args, below, meth, c, Q, cells, slots, A, H0, nL, g⟩ := C
  intro H locs ls hP hS hl
  show W p l e R (s.setDrawn d) m args below meth c H locs cells slots Q _
  have hx : z_ok (p, l, e, R, s.setDrawn d, m, args, below, meth, c, Q, cells, slots, A, H0, nL, g) cc own 0 := hx
  obtain ⟨h1, h2, h3, h4, h5, h6, h7, h8, h9, h10, h11, rfl⟩ := hx
  obtain ⟨q1, q2, q3⟩ := hq
  rw [q3]
  refine W.endD hd ?_
  exact W.zret h1 h2 q1 (z_nar hz).2 (fun t ht hW => ⟨⟨zi r0, σ, rfl, ⟨rfl, rfl⟩, by rw [ht]; exact hP, va_K.moved (u := s) hW.alike h6, h7 σ⟩, hS.F ht⟩) hS.2.2 hdc q2
theorem y_iand (hx : z_ok C cc own 0) {a b : Int} (hd : decode cc pc = .ok (.iand, 1)) (kk : z_W C σ (pc + 1) lv (.int (zi (z_and a b)) :: st)) : z_W C σ pc lv (.int (zi b) :: .int (zi a) :: st) := by
  obtain ⟨p, l, e, R, s, m, args, below, meth, c, Q, cells, slots, A, H0, nL, g⟩ := C
  intro H locs ls hP hS hl
  refine lv_iand hx.1 hx.2.1 hd ?_
  have e1 : (zi a &&& zi b) = zi (z_and a b) := (zi_of _).symm
  rw [e1]
  exact kk H locs ls hP hS hl
theorem y_ishr (hx : z_ok C cc own 0) {a b : Int} (hd : decode cc pc = .ok (.ishr, 1)) (kk : z_W C σ (pc + 1) lv (.int (zi (z_shr a b)) :: st)) : z_W C σ pc lv (.int (zi b) :: .int (zi a) :: st) := by
  obtain ⟨p, l, e, R, s, m, args, below, meth, c, Q, cells, slots, A, H0, nL, g⟩ := C
  intro H locs ls hP hS hl
  refine lv_ishr hx.1 hx.2.1 hd ?_
  have e1 : (zi a >>> (zi b &&& 31)) = zi (z_shr a b) := (zi_of _).symm
  rw [e1]
  exact kk H locs ls hP hS hl
theorem y_lcmp (hx : z_ok C cc own 0) {a b : Int} {A : Option α} (hd : decode cc pc = .ok (.lcmp, 1)) (h : (if a = b then A else none) = some r) (kk : A = some r → z_W C σ (pc + 1) lv (.int (zi 0) :: st)) : z_W C σ pc lv (.long (zl b) :: .long (zl a) :: st) := by
  obtain ⟨hab, h⟩ := z_gd h
  have kk := kk h
  subst hab
  obtain ⟨p, l, e, R, s, m, args, below, meth, c, Q, cells, slots, A, H0, nL, g⟩ := C
  intro H locs ls hP hS hl
  refine W.lcmp hx.1 hx.2.1 hd ?_
  have e1 : lg_cmp (zl a) (zl a) = zi 0 := by
    unfold lg_cmp
    simp [zi_0]
  rw [e1]
  exact kk H locs ls hP hS hl
theorem y_fstore (hx : z_ok C cc own 0) {nL : Nat} (hn : C.2.2.2.2.2.2.2.2.2.2.2.2.2.2.2.1 = nL) {k : Nat} {x : UInt32} {lv' : List (Nat × Value)} (hd : decode cc pc = .ok (.fstore k, 2)) (hlt : k < nL) (hl' : (k, Value.float x) :: lv.filter (fun q => !(q.1 == k) && !(q.1 + 1 == k && q.2.category == 2)) = lv') (kk : z_W C σ (pc + 2) lv' st) : z_W C σ pc lv (.float x :: st) := by
  obtain ⟨p, l, e, R, s, m, args, below, meth, c, Q, cells, slots, A, H0, nL, g⟩ := C
  intro H locs ls hP hS hl
  cases hn
  exact lv_fstore hx.1 hx.2.1 hd hl hlt hl' (fun ls' hl => kk H locs ls' hP hS hl)
theorem y_fload (hx : z_ok C cc own 0) (q : Nat) {k : Nat} {x : UInt32} (hd : decode cc pc = .ok (.fload k, 2)) (hk : lv[q]? = some (k, .float x)) (kk : z_W C σ (pc + 2) lv (.float x :: st)) : z_W C σ pc lv st := by
  obtain ⟨p, l, e, R, s, m, args, below, meth, c, Q, cells, slots, A, H0, nL, g⟩ := C
  intro H locs ls hP hS hl
  exact lv_fload hx.1 hx.2.1 hd (lv_at hl q hk) (kk H locs ls hP hS hl)
theorem z_flt0 : z_flt (0, 0) FP.fconst0 := by
  unfold z_flt
  show alike32 FP.fconst0 (if (0 : Int) = 0 then FP.fconst0 else _) = true
  rw [if_pos rfl]
  exact alike32_refl _
theorem y_fconst0 (hx : z_ok C cc own 0) (hd : decode cc pc = .ok (.fconst 0, 1)) (kk : z_W C σ (pc + 1) lv (.float FP.fconst0 :: st)) : z_W C σ pc lv st := by
  obtain ⟨p, l, e, R, s, m, args, below, meth, c, Q, cells, slots, A, H0, nL, g⟩ := C
  intro H locs ls hP hS hl
  exact lv_fconst0 hx.1 hx.2.1 hd (kk H locs ls hP hS hl)
theorem y_fdiv (hx : y_ok C cc own E) (hd : y_dr C d) {a b : Int} {A : Option α} (hdc : decode cc pc = .ok (.fdiv, 1)) (h : (if b ≠ 0 then A else none) = some r) (kk : A = some r → ∀ (x : UInt32) (d1 : Drawn), y_dr C d1 → z_flt (a, b) x → z_W (y_D C d1) σ (pc + 1) lv (.float x :: st)) : z_W (y_D C d) σ pc lv (.float (z_f b) :: .float (z_f a) :: st) := by
  obtain ⟨hb, h⟩ := z_gd h
  have kk := kk h
  obtain ⟨hx, hX⟩ := hx
  have hx := hx d
  obtain ⟨p, l, e, R, s, m, args, below, meth, c, Q, cells, slots, A, H0, nL, g⟩ := C
  intro H locs ls hP hS hl
  show W p l e R (s.setDrawn d) m args below meth c H locs cells slots Q _
  have hx : z_ok (p, l, e, R, s.setDrawn d, m, args, below, meth, c, Q, cells, slots, A, H0, nL, g) cc own 0 := hx
  obtain ⟨h1, h2, h3, h4, h5, h6, h7, h8, h9, h10, h11, rfl⟩ := hx
  refine lv_fdiv_any hd lw_bits h1 h2 hdc (fun x d1 hal hd1 => ?_)
  refine kk x d1 hd1 ?_ H locs ls hP hS hl
  unfold z_flt
  rw [if_neg hb]
  exact hal
/-- what stands for a share of numbers is one number -/
theorem z_flt_one {q : Int × Int} {r1 r2 : UInt32} (hz : zr q.2) (h1 : z_flt q r1) (h2 : z_flt q r2) : Op.cmpValue (FP.fcmp r1 r2) .l = zi 0 := by
  obtain ⟨X, hX⟩ : ∃ X, X = (if q.2 = 0 then FP.fconst0 else FP.fdiv (z_f q.1) (z_f q.2)) := ⟨_, rfl⟩
  unfold z_flt at h1 h2
  rw [← hX] at h1 h2
  have hn : FP.fIsNaN X = false := by
    rw [hX]
    by_cases e : q.2 = 0
    · rw [if_pos e]; decide +kernel
    · rw [if_neg e]
      have hne : zi q.2 ≠ 0 := fun h => e ((zi_eq hz zr_0).mp h)
      exact FP.Core.fdiv_out (FP.Core.FFin.notNaN (FP.Core.i2f_fin _)) (FP.Core.i2f_fin _) (fun h => FP.Core.i2f_ne_zero hne ((FP.Core.zero_bits232 _).mp h))
  have hone : ∀ x : UInt32, alike32 x X = true → x = X := fun x h => by
    simp only [alike32, Bool.or_eq_true, decide_eq_true_eq, Bool.and_eq_true] at h
    rcases h with h | h
    · exact h
    · have := (z_nan32 X).mp h.2
      rw [hn] at this
      cases this
  rw [hone r1 h1, hone r2 h2]
  rw [FP.fcmp_core, FP.Core.fcmp_self (fun e => by
    have := (FP.Core.fIsNaN_iff X).mpr e
    have hn : FP.Core.fIsNaN X = false := hn
    rw [hn] at this
    cases this)]
  rfl
theorem y_fcmpl (hx : z_ok C cc own 0) {q1 q2 : Int × Int} {r1 r2 : UInt32} (h1 : z_flt q1 r1) (h2 : z_flt q2 r2) {A : Option α} (hd : decode cc pc = .ok (.fcmp .l, 1)) (h : (if q1 = q2 ∧ zr q1.2 then A else none) = some r) (kk : A = some r → z_W C σ (pc + 1) lv (.int (zi 0) :: st)) : z_W C σ pc lv (.float r2 :: .float r1 :: st) := by
  obtain ⟨⟨hq, hz⟩, h⟩ := z_gd h
  have kk := kk h
  obtain ⟨p, l, e, R, s, m, args, below, meth, c, Q, cells, slots, A, H0, nL, g⟩ := C
  intro H locs ls hP hS hl
  refine lv_fcmp hx.1 hx.2.1 hd ?_
  rw [z_flt_one hz h1 (hq ▸ h2)]
  exact kk H locs ls hP hS hl
/-- an int of the script -/
def y_v (E : yE) (i : Int) : Int := (e_xs E i.toNat).toInt
theorem y_sld (hx : y_ok C cc own E) {i : Int} {A : Option α} (hdc : decode cc pc = .ok (.iaload, 1)) (h : (if 0 ≤ i ∧ i < (e_L E : Int) then A else none) = some r) (kk : A = some r → z_W (y_D C d) σ (pc + 1) lv (.int (zi (y_v E i)) :: st)) : z_W (y_D C d) σ pc lv (.int (zi i) :: .ref (e_b E) :: st) := by
  obtain ⟨⟨i0, i1⟩, h⟩ := z_gd h
  have kk := kk h
  obtain ⟨hx, hX⟩ := hx
  have hx := hx d
  obtain ⟨p, l, e, R, s, m, args, below, meth, c, Q, cells, slots, A, H0, nL, g⟩ := C
  intro H locs ls hP hS hl
  show W p l e R (s.setDrawn d) m args below meth c H locs cells slots Q _
  have hx : z_ok (p, l, e, R, s.setDrawn d, m, args, below, meth, c, Q, cells, slots, A, H0, nL, g) cc own 0 := hx
  obtain ⟨h1, h2, h3, h4, h5, h6, h7, h8, h9, h10, h11, rfl⟩ := hx
  have hL : e_L E ≤ 260 := hX.2.2.2.2
  have hX1 : va_X (e_b E) (e_L E) (e_xs E) s s.heap := hX.2.1
  refine va_sld (s := s.setDrawn d) h1 h2 hX1 hX.2.2.1 hX.2.2.2.1 hS (zi_in i0 i1 (by omega)) hdc ?_
  rw [zi_clamp i0 (by omega)]
  have e1 : e_xs E i.toNat = zi (y_v E i) := (zi_of _).symm
  rw [e1]
  exact kk H locs ls hP hS hl
theorem y_slen (hx : y_ok C cc own E) (hdc : decode cc pc = .ok (.arraylength, 1)) (kk : z_W (y_D C d) σ (pc + 1) lv (.int (zi (e_L E : Int)) :: st)) : z_W (y_D C d) σ pc lv (.ref (e_b E) :: st) := by
  obtain ⟨hx, hX⟩ := hx
  have hx := hx d
  obtain ⟨p, l, e, R, s, m, args, below, meth, c, Q, cells, slots, A, H0, nL, g⟩ := C
  intro H locs ls hP hS hl
  show W p l e R (s.setDrawn d) m args below meth c H locs cells slots Q _
  have hx : z_ok (p, l, e, R, s.setDrawn d, m, args, below, meth, c, Q, cells, slots, A, H0, nL, g) cc own 0 := hx
  obtain ⟨h1, h2, h3, h4, h5, h6, h7, h8, h9, h10, h11, rfl⟩ := hx
  have hX1 : va_X (e_b E) (e_L E) (e_xs E) s s.heap := hX.2.1
  refine va_slen (s := s.setDrawn d) h1 h2 hX1 hX.2.2.1 hX.2.2.2.1 hS hdc ?_
  have e1 : Int32.ofNat (e_L E) = zi (e_L E : Int) := rfl
  rw [e1]
  exact kk H locs ls hP hS hl
-- calls
theorem y_blind {g : zG} {E : yE} {σ : zS} {sz : Nat} {av : List Value} : FrameBlind (va_Pc av (fun U => z_Pre g σ sz U ∧ y_X E (va_A (z_w g σ) sz) U)) := fun a U f mk q => ⟨q.1, ⟨q.2.1.1, q.2.1.2.1, va_K.moved (u := U) (U := U.calling f mk a) (Vm.Alike.refl U.vm) q.2.1.2.2.1, q.2.1.2.2.2⟩, y_X_moved (U := U) (V := U.calling f mk a) q.2.2 (Vm.Alike.refl U.vm) rfl⟩
theorem y_calls (hx : y_ok C cc own E) (hd : y_dr C d) {y : MethodName} {cc' : ByteArray} {nL' n idx : Nat} {ret' : Option FieldType} {rm' : Room} {As : List Value} {r0 : Int} {σ1 : zS}
    (hM : y_Met (z_l C) y cc' nL' ret' rm' (z_g C) E As σ (z_QI (z_g C) r0 σ1)) (hw : z_cs own idx y cc' nL' ret' n) (hR : rm'.frames + 1 ≤ (z_R C).frames ∧ 8 + (nL' + 11) + rm'.locals ≤ (z_R C).locals) (hrc : rm'.cells = 0 ∧ rm'.slots = 0) (hn : As.length = n)
    {stk : List Value} (hst : stk = As.reverse ++ st) (hsum : (st.map fun v => v.category).sum ≤ 8) (hdc : decode cc pc = .ok (.invokestatic idx, 3)) (kk : ∀ d1, y_dr C d1 → z_W (y_D C d1) σ1 (pc + 3) lv (.int (zi r0) :: st)) : z_W (y_D C d) σ pc lv stk := by
  obtain ⟨hx, hX⟩ := hx
  have hx := hx d
  obtain ⟨p, l, e, R, s, m, args, below, meth, c, Q, cells, slots, A, H0, nL, g⟩ := C
  intro H locs ls hP hS hl
  show W p l e R (s.setDrawn d) m args below meth c H locs cells slots Q _
  have hx : z_ok (p, l, e, R, s.setDrawn d, m, args, below, meth, c, Q, cells, slots, A, H0, nL, g) cc own 0 := hx
  have hF := z_free (g := g) (σ := σ) (hx.2.2.2.2.2.2.1 σ) hx.2.2.2.2.2.2.2.1 hS
  obtain ⟨h1, h2, h3, h4, h5, h6, h7, h8, h9, h10, h11, rfl⟩ := hx
  have hS' : va_S A s.heap H locs := hS
  refine va_calliD (s := s) hd (va_runS_D (As := As) (rest := st) ⟨h1, h2, h3, h4, h5⟩ (hM H.size) (va_cwS n h5 (fun w h => ⟨hw.1 w h, good_of_word (List.mem_filter.mp (hw.1 w h)).2⟩) rfl hrc.1 hrc.2 hw.2 hR) ⟨y_blind, fun U hU hW => ⟨rfl, ⟨by rw [hU], by rw [hU]; exact hP, va_K.moved hW.alike h6, (h7 σ).weaken (fun _ _ _ _ => trivial)⟩, y_X_go (s := s) hX hS' hF hW.alike hU⟩⟩ rfl hn hl.1 hst (lv_room hsum) hdc ⟨h10, h11⟩) hS (fun q _ h => hF q h) hF (fun r1 u t H1 locs1 ht hvm hw1 hB hz1 hk1 hS1 d1 hd1 => ?_)
  obtain ⟨rfl, rfl⟩ := hw1
  obtain ⟨hP1, hK1, hD1⟩ := hB
  rw [ht] at hP1
  exact kk d1 hd1 H1 locs1 ls hP1 hS1 hl
theorem y_callset (hx : y_ok C cc own E) {y : MethodName} {cc' : ByteArray} {nL' n idx : Nat} {ret' : Option FieldType} {rm' : Room} {As : List Value} {r0 : Int} {σ1 : zS}
    (hM : z_MetS (z_l C) y cc' nL' ret' rm' (z_g C) (.ref (z_ad (z_g C) 62) :: As) σ (e_gs E) (z_QI (z_g C) r0 σ1)) (hCN : RX5 = y.cls) (hw : z_cv own idx y cc' nL' ret' n) (hR : rm'.frames + 1 ≤ (z_R C).frames ∧ 8 + (nL' + 11) + rm'.locals ≤ (z_R C).locals) (hrc : rm'.cells = 0 ∧ rm'.slots = 0) (hn : As.length = n)
    {stk : List Value} (hst : stk = As.reverse ++ .ref (z_ad (z_g C) 62) :: st) (hsum : (st.map fun v => v.category).sum ≤ 8) (hdc : decode cc pc = .ok (.invokevirtual idx, 3)) (kk : z_W (y_D C d) σ1 (pc + 3) lv (.int (zi r0) :: st)) : z_W (y_D C d) σ pc lv stk := by
  obtain ⟨hx, hX⟩ := hx
  have hx := hx d
  have hsd := z_ok_sd hx
  obtain ⟨p, l, e, R, s, m, args, below, meth, c, Q, cells, slots, A, H0, nL, g⟩ := C
  intro H locs ls hP hS hl
  show W p l e R (s.setDrawn d) m args below meth c H locs cells slots Q _
  have hx : z_ok (p, l, e, R, s.setDrawn d, m, args, below, meth, c, Q, cells, slots, A, H0, nL, g) cc own 0 := hx
  have hF := z_free (g := g) (σ := σ) (hx.2.2.2.2.2.2.1 σ) hx.2.2.2.2.2.2.2.1 hS
  have he := z_wd_get (mk := z_mk g) (ad := g.2.1) (σ := σ) (z_lt0 hsd (show 62 < 64 by decide))
  rw [z_kb62 hsd] at he
  obtain ⟨h1, h2, h3, h4, h5, h6, h7, h8, h9, h10, h11, rfl⟩ := hx
  have hS' : va_S A s.heap H locs := hS
  have hc : vwCl[5]? = some (y.cls, TX5, 7) := by rw [← hCN]; rfl
  refine va_calli (s := s.setDrawn d) (va_runV (As := As) (rest := st) ⟨h1, h2, h3, h4, h5⟩ (hM H.size) (cwV n h5 (fun w h => ⟨hw.1 w h, good_of_word (List.mem_filter.mp (hw.1 w h)).2⟩) rfl hrc.1 hrc.2 ⟨rfl, hw.2.2⟩ hR) ⟨fun a U f mk q => ⟨q.1, ⟨q.2.1.1, q.2.1.2.1, va_K.moved (u := U) (U := U.calling f mk a) (Vm.Alike.refl U.vm) q.2.1.2.2.1, q.2.1.2.2.2⟩, q.2.2.1.moved (u := U) (U := U.calling f mk a) (Vm.Alike.refl U.vm), q.2.2.2.1.moved (u := U) (U := U.calling f mk a) (Vm.Alike.refl U.vm), q.2.2.2.2⟩, va_recv h6 hP (q := (y.cls, TX5, 7)) hc he, fun U hU hW => ⟨rfl, ⟨by rw [hU], by rw [hU]; exact hP, va_K.moved hW.alike h6, (h7 σ).weaken (fun _ _ _ _ => trivial)⟩, z_Sr_go (s := s) hX.1 hS' hF hW.alike hU⟩⟩ rfl hn hl.1 hst (lv_room hsum) hdc ⟨h10, h11⟩) hS (fun q _ h => hF q h) hF (fun r1 u t H1 locs1 ht hvm hw1 hB hz1 hk1 hS1 => ?_)
  obtain ⟨rfl, rfl⟩ := hw1
  obtain ⟨hP1, hK1, hD1⟩ := hB
  rw [ht] at hP1
  exact kk H1 locs1 ls hP1 hS1 hl
theorem y_callf (hx : y_ok C cc own E) (hd : y_dr C d) {y : MethodName} {cc' : ByteArray} {nL' idx : Nat} {rm' : Room} {ab : Int × Int} {σ1 : zS}
    (hM : z_MetF (z_l C) y cc' nL' rm' (z_g C) [.ref (z_ad (z_g C) 62)] σ ab σ1) (hCN : RX5 = y.cls) (hw : z_cv own idx y cc' nL' (some .float) 0) (hR : rm'.frames + 1 ≤ (z_R C).frames ∧ 8 + (nL' + 11) + rm'.locals ≤ (z_R C).locals) (hrc : rm'.cells = 0 ∧ rm'.slots = 0)
    (hsum : (st.map fun v => v.category).sum ≤ 8) (hdc : decode cc pc = .ok (.invokevirtual idx, 3)) (kk : ∀ (x : UInt32) (d1 : Drawn), y_dr C d1 → z_flt ab x → z_W (y_D C d1) σ1 (pc + 3) lv (.float x :: st)) : z_W (y_D C d) σ pc lv (.ref (z_ad (z_g C) 62) :: st) := by
  obtain ⟨hx, hX⟩ := hx
  have hx := hx d
  have hsd := z_ok_sd hx
  obtain ⟨p, l, e, R, s, m, args, below, meth, c, Q, cells, slots, A, H0, nL, g⟩ := C
  intro H locs ls hP hS hl
  show W p l e R (s.setDrawn d) m args below meth c H locs cells slots Q _
  have hx : z_ok (p, l, e, R, s.setDrawn d, m, args, below, meth, c, Q, cells, slots, A, H0, nL, g) cc own 0 := hx
  have hF := z_free (g := g) (σ := σ) (hx.2.2.2.2.2.2.1 σ) hx.2.2.2.2.2.2.2.1 hS
  have he := z_wd_get (mk := z_mk g) (ad := g.2.1) (σ := σ) (z_lt0 hsd (show 62 < 64 by decide))
  rw [z_kb62 hsd] at he
  obtain ⟨h1, h2, h3, h4, h5, h6, h7, h8, h9, h10, h11, rfl⟩ := hx
  have hc : vwCl[5]? = some (y.cls, TX5, 7) := by rw [← hCN]; rfl
  refine va_callfD (s := s) hd (va_runV_D (As := []) (rest := st) ⟨h1, h2, h3, h4, h5⟩ (hM H.size) (cwV 0 h5 (fun w h => ⟨hw.1 w h, good_of_word (List.mem_filter.mp (hw.1 w h)).2⟩) rfl hrc.1 hrc.2 ⟨rfl, hw.2.2⟩ hR) ⟨z_blind, va_recv h6 hP (q := (y.cls, TX5, 7)) hc he, fun U hU hW => ⟨rfl, by rw [hU], by rw [hU]; exact hP, va_K.moved hW.alike h6, (h7 σ).weaken (fun _ _ _ _ => trivial)⟩⟩ rfl rfl hl.1 rfl (lv_room hsum) hdc ⟨h10, h11⟩) hS (fun q _ h => hF q h) hF (fun r1 u t H1 locs1 ht hvm hw1 hB hz1 hk1 hS1 d1 hd1 => ?_)
  obtain ⟨hfl, rfl⟩ := hw1
  obtain ⟨hP1, hK1, hD1⟩ := hB
  rw [ht] at hP1
  exact kk r1 d1 hd1 hfl H1 locs1 ls hP1 hS1 hl
end
