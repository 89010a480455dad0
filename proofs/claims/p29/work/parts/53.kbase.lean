/-! CONSTRUCTORS: worlds that grow, as lists of cells -/
def z_init (i : Int) : Int := if i = 0 then 30 else if i = 1 then 1 else if i = 2 then 5 else if i = 3 then 4 else if i = 4 then 50 else if i = 5 then 6 else 2
def k_0 : Int → Int := fun _ => 0
def k_set : Int → Int := fun i => if 0 ≤ i ∧ i < 7 then z_init i else 0
abbrev k_I (g : zG) (n : Nat) (f : Int → Int) : va_E := .inl (g.2.2.1, n, .inl (z_ar f))
abbrev k_Z (g : zG) (n : Nat) (f : Int → Int) : va_E := .inl (g.2.2.2.1, n, .inl (z_ar f))
abbrev k_R (g : zG) (n : Nat) (f : Nat → Option Nat) : va_E := .inl (g.2.2.2.2.1, n, .inr (.inr (.inr (.inr f))))
/-- the first settings' row, where a state has it: outside of A -/
def k_St (A : Nat → Prop) (U : State) (H : Heap) (gs : Nat) : Prop := va_Z "SpeechCleaner" "INITIAL_SETTINGS" "[I" (.ref gs) A U H ∧ va_X gs 7 (fun j => zi (z_init (j : Int))) U H ∧ gs < H.size ∧ ¬ A gs
theorem k_St.go {A B : Nat → Prop} {s U : State} {H : Heap} {locs : List Loc} {gs : Nat} (h : k_St A s s.heap gs) (hS : va_S A s.heap H locs) (hB : ∀ q, B q → A q) (hvm : s.vm.Alike U.vm) : k_St B U H gs :=
  ⟨((h.1.kept hS.2.1).narrow hB).moved hvm, (h.2.1.kept (hS.2.1 gs h.2.2.1 h.2.2.2)).moved hvm, Nat.lt_of_lt_of_le h.2.2.1 hS.1, fun q => h.2.2.2 (hB gs q)⟩
/-- the tables' words of nest mates, and of arrays of recordings -/
def k_Ne (U : State) : Prop := va_Nw (.fieldLinkNest RX2 41 RX5 "INITIAL_SETTINGS" "[I" RX5) U ∧ va_Nw (.methodLinkNest RX5 33 yX4_init RX5) U ∧ va_Nw (.methodLinkNest RX5 40 yX0_init RX5) U ∧ va_Nw (.methodLinkNest RX5 47 yX3_init RX5) U ∧ va_AO RX2 U
theorem k_Ne.warm {s U : State} (h : k_Ne s) (hW : s.WarmedH U.vm) : k_Ne U := ⟨va_Nw.warmF hW h.1, va_Nw.warmM hW h.2.1, va_Nw.warmM hW h.2.2.1, va_Nw.warmM hW h.2.2.2.1, va_AO.moved hW.alike h.2.2.2.2⟩
theorem k_Ne.same {s U : State} (h : k_Ne s) (hv : s.vm = U.vm) : k_Ne U := ⟨va_Nw.same rfl hv h.1, va_Nw.same rfl hv h.2.1, va_Nw.same rfl hv h.2.2.1, va_Nw.same rfl hv h.2.2.2.1, va_AO.moved (by rw [hv]; exact Vm.Alike.refl _) h.2.2.2.2⟩
/-- the machine in a constructor, over a list of cells; n cells of k slots made so far -/
def k_W (C : zC) (ws : va_W) (n k : Nat) (pc : Nat) (lv : List (Nat × Value)) (st : List Value) : Prop := match C with
  | (p, l, e, R, s, m, args, below, meth, c, Q, _, _, A, H0, nL, g) => ∀ (H : Heap) (locs : List Loc) (ls : Array Slot), va_P g.2.2.2.2.2 vwCl ws H → va_D A ws → va_S A H0 H locs → lv_has ls nL lv → W p l e R s m args below meth c H locs n k Q (F0 m pc ls st)
def k_ok (C : zC) (cc : ByteArray) (own : String) (gs : Nat) : Prop := match C with
  | (p, _, _, _, s, m, args, _, meth, c, _, _, _, A, H0, nL, g) => p.tables.exec = Jvm.exec ∧ c.code = cc ∧ c.maxLocals = nL ∧ s.vm.findClass own = some m.cls ∧ (∀ w ∈ z_ws, w.before args s = true) ∧ va_K g.2.2.2.2.2 vwCl (z_tys g) s ∧ (∀ q, H0.size ≤ q → A q) ∧ H0 = s.heap ∧ meth.name = "<init>" ∧ k_Ne s ∧ k_St A s s.heap gs
/-- a constructor's contract: on an object at h0 as it was born; at its end its cells are wd u -/
def k_Met (l : Launch) (y : MethodName) (cc : ByteArray) (nL : Nat) (rm : Room) (g : zG) (gs h0 : Nat) (e0 : va_E) (wd : (Nat → Nat) → va_W) : Prop :=
  ∀ sz : Nat, Met l y (.code y cc nL none :: z_ws) rm (va_Pc [.ref h0] (fun U => U.heap.size = sz ∧ va_P g.2.2.2.2.2 vwCl [(h0, e0)] U.heap ∧ va_K g.2.2.2.2.2 vwCl (z_tys g) U ∧ va_D (fun _ => True) [(h0, e0)] ∧ k_Ne U ∧ k_St (va_A [(h0, e0)] sz) U U.heap gs)) (va_Qv (fun (_ : Nat → Nat) => True) (fun u t => va_P g.2.2.2.2.2 vwCl (wd u) t.heap ∧ va_K g.2.2.2.2.2 vwCl (z_tys g) t ∧ va_D (va_A [(h0, e0)] sz) (wd u)) (va_A [(h0, e0)] sz)) rm.cells rm.slots (va_A [(h0, e0)] sz)
def k_fin (C : zC) (wd : (Nat → Nat) → va_W) : Prop := match C with
  | (_, _, _, R, s, _, args, below, meth, _, Q, _, _, A, _, _, g) => meth.sig.returnType = none ∧ meth.locks = false ∧ Q = MQ below (va_Qv (fun (_ : Nat → Nat) => True) (fun u t => va_P g.2.2.2.2.2 vwCl (wd u) t.heap ∧ va_K g.2.2.2.2.2 vwCl (z_tys g) t ∧ va_D A (wd u)) A) args s R.cells R.slots A
theorem k_enter {l : Launch} {y : MethodName} {cc : ByteArray} {nL : Nat} {rm : Room} {g : zG} {gs h0 : Nat} {e0 : va_E} {wd : (Nat → Nat) → va_W} {own : String} (hy : plainName y.cls = true) (hown : y.cls = own) (hnm : y.name = "<init>") (hlen : 1 ≤ nL)
    (body : ∀ C : zC, k_ok C cc own gs → z_l C = l → z_g C = g → z_R C = rm → C.2.2.2.2.2.2.2.2.2.2.2.2.2.2.2.1 = nL → k_fin C wd → k_W C [(h0, e0)] 0 0 0 [(0, .ref h0)] []) : k_Met l y cc nL rm g gs h0 e0 wd := by
  intro sz
  refine Met.ofW (cc := cc) (maxL := nL) (ret := none) hy rfl ?_
  intro p e s m args below meth c s₁ B hml hv
  obtain ⟨rfl, hsz, hP, hK, hD0, hNe, hSt⟩ := hv
  have hx := B.exec
  have hb := B.bytes
  have hr := B.returns
  have hts := atoms_spec (ws := .code y cc nL none :: z_ws) B.pre
  have hown2 : s.vm.findClass y.cls = some m.cls := findClass_of_methodNamed B.named
  have hlocks := B.notSynchronized
  have hin : meth.name = "<init>" := (name_of_methodNamed B.named B.method).1.trans hnm
  subst hsz
  have hD := hD0.self (sz := s.heap.size)
  have hl := lv_entry [.ref h0] (n := nL) hlen
  rw [lg_entry_eq]
  have hl : lv_has _ nL [(0, .ref h0)] := hl
  exact body (p, l, e, rm, s, m, ([.ref h0] : List Value).toArray, below, meth, c, MQ below (va_Qv (fun (_ : Nat → Nat) => True) (fun u t => va_P g.2.2.2.2.2 vwCl (wd u) t.heap ∧ va_K g.2.2.2.2.2 vwCl (z_tys g) t ∧ va_D (va_A [(h0, e0)] s.heap.size) (wd u)) (va_A [(h0, e0)] s.heap.size)) ([.ref h0] : List Value).toArray s rm.cells rm.slots (va_A [(h0, e0)] s.heap.size), 0, 0, va_A [(h0, e0)] s.heap.size, s.heap, nL, g) ⟨hx, hb, hml, hown ▸ hown2, fun w hw => hts w (List.mem_cons_of_mem _ hw), hK, fun q h => Or.inr h, rfl, hin, hNe, hSt⟩ rfl rfl rfl rfl ⟨hr, hlocks, rfl⟩ s.heap [] _ hP hD va_S.rf hl
section
variable {C : zC} {cc : ByteArray} {own : String} {gs : Nat} {ws : va_W} {n k : Nat} {pc : Nat} {lv : List (Nat × Value)} {st : List Value}
theorem k_aload_n (hx : k_ok C cc own gs) (q : Nat) {i : Fin 4} {x : Nat} (hd : decode cc pc = .ok (.aload_n i, 1)) (hk : lv[q]? = some ((i : Nat), .ref x)) (kk : k_W C ws n k (pc + 1) lv (.ref x :: st)) : k_W C ws n k pc lv st := by
  obtain ⟨p, l, e, R, s, m, args, below, meth, c, Q, cells, slots, A, H0, nL, g⟩ := C
  intro H locs ls hP hD hS hl
  exact lv_aload_n hx.1 hx.2.1 hd rfl (lv_at hl q hk) (kk H locs ls hP hD hS hl)
theorem k_iload_n (hx : k_ok C cc own gs) (q : Nat) {i : Fin 4} {x : Int32} (hd : decode cc pc = .ok (.iload_n i, 1)) (hk : lv[q]? = some ((i : Nat), .int x)) (kk : k_W C ws n k (pc + 1) lv (.int x :: st)) : k_W C ws n k pc lv st := by
  obtain ⟨p, l, e, R, s, m, args, below, meth, c, Q, cells, slots, A, H0, nL, g⟩ := C
  intro H locs ls hP hD hS hl
  exact lv_iload_n hx.1 hx.2.1 hd rfl (lv_at hl q hk) (kk H locs ls hP hD hS hl)
theorem k_iconst (hx : k_ok C cc own gs) {v : Int} (hd : decode cc pc = .ok (.iconst v, 1)) (kk : k_W C ws n k (pc + 1) lv (.int (zi v) :: st)) : k_W C ws n k pc lv st := by
  obtain ⟨p, l, e, R, s, m, args, below, meth, c, Q, cells, slots, A, H0, nL, g⟩ := C
  intro H locs ls hP hD hS hl
  exact lv_iconst hx.1 hx.2.1 hd rfl (kk H locs ls hP hD hS hl)
theorem k_bipush (hx : k_ok C cc own gs) {v : Int} (hd : decode cc pc = .ok (.bipush v, 2)) (hn : (Int8.ofInt v).toInt32 = zi v) (kk : k_W C ws n k (pc + 2) lv (.int (zi v) :: st)) : k_W C ws n k pc lv st := by
  obtain ⟨p, l, e, R, s, m, args, below, meth, c, Q, cells, slots, A, H0, nL, g⟩ := C
  intro H locs ls hP hD hS hl
  exact lv_bipush hx.1 hx.2.1 hd hn (kk H locs ls hP hD hS hl)
theorem k_sipush (hx : k_ok C cc own gs) {v : Int} (hd : decode cc pc = .ok (.sipush v, 3)) (hn : (Int16.ofInt v).toInt32 = zi v) (kk : k_W C ws n k (pc + 3) lv (.int (zi v) :: st)) : k_W C ws n k pc lv st := by
  obtain ⟨p, l, e, R, s, m, args, below, meth, c, Q, cells, slots, A, H0, nL, g⟩ := C
  intro H locs ls hP hD hS hl
  exact lv_sipush hx.1 hx.2.1 hd hn (kk H locs ls hP hD hS hl)
theorem k_dup (hx : k_ok C cc own gs) {va : Value} (hd : decode cc pc = .ok (.dup, 1)) (hc : va.category = 1) (kk : k_W C ws n k (pc + 1) lv (va :: va :: st)) : k_W C ws n k pc lv (va :: st) := by
  obtain ⟨p, l, e, R, s, m, args, below, meth, c, Q, cells, slots, A, H0, nL, g⟩ := C
  intro H locs ls hP hD hS hl
  exact lv_dup hx.1 hx.2.1 hd hc (kk H locs ls hP hD hS hl)
theorem k_istore_n (hx : k_ok C cc own gs) {nL : Nat} (hn : C.2.2.2.2.2.2.2.2.2.2.2.2.2.2.2.1 = nL) {i : Fin 4} {x : Int32} {lv' : List (Nat × Value)} (hd : decode cc pc = .ok (.istore_n i, 1)) (hlt : (i : Nat) < nL) (hl' : ((i : Nat), Value.int x) :: lv.filter (fun q => !(q.1 == (i : Nat)) && !(q.1 + 1 == (i : Nat) && q.2.category == 2)) = lv') (kk : k_W C ws n k (pc + 1) lv' st) : k_W C ws n k pc lv (.int x :: st) := by
  obtain ⟨p, l, e, R, s, m, args, below, meth, c, Q, cells, slots, A, H0, nL, g⟩ := C
  intro H locs ls hP hD hS hl
  cases hn
  exact lv_istore_n hx.1 hx.2.1 hd rfl hl hlt hl' (fun ls' hl => kk H locs ls' hP hD hS hl)
theorem k_iinc (hx : k_ok C cc own gs) {nL : Nat} (hn : C.2.2.2.2.2.2.2.2.2.2.2.2.2.2.2.1 = nL) (q : Nat) {i : Nat} {v x y : Int} {lv' : List (Nat × Value)} (hd : decode cc pc = .ok (.iinc i v, 3)) (hk : lv[q]? = some (i, .int (zi x))) (hy : x + v = y) (hlt : i < nL) (hl' : (i, Value.int (zi y)) :: lv.filter (fun q => !(q.1 == i) && !(q.1 + 1 == i && q.2.category == 2)) = lv') (kk : k_W C ws n k (pc + 3) lv' st) : k_W C ws n k pc lv st := by
  obtain ⟨p, l, e, R, s, m, args, below, meth, c, Q, cells, slots, A, H0, nL, g⟩ := C
  intro H locs ls hP hD hS hl
  cases hn
  subst hy
  exact lv_iinc hx.1 hx.2.1 hd hl hk (zi_add x v) hlt hl' (fun ls' hl => kk H locs ls' hP hD hS hl)
theorem k_goto (hx : k_ok C cc own gs) {off : Int} {tgt : Nat} (hd : decode cc pc = .ok (.goto off, 3)) (ht : (pc : Int) + off = (tgt : Int)) (kk : k_W C ws n k tgt lv st) : k_W C ws n k pc lv st := by
  obtain ⟨p, l, e, R, s, m, args, below, meth, c, Q, cells, slots, A, H0, nL, g⟩ := C
  intro H locs ls hP hD hS hl
  exact lv_goto hx.1 hx.2.1 hd ht (kk H locs ls hP hD hS hl)
theorem k_ge_t (hx : k_ok C cc own gs) {a b : Int} {off : Int} {tgt : Nat} (hd : decode cc pc = .ok (.if_icmp .ge off, 3)) (ht : (pc : Int) + off = (tgt : Int)) (hc : zi b ≤ zi a) (kk : k_W C ws n k tgt lv st) : k_W C ws n k pc lv (.int (zi b) :: .int (zi a) :: st) := by
  obtain ⟨p, l, e, R, s, m, args, below, meth, c, Q, cells, slots, A, H0, nL, g⟩ := C
  intro H locs ls hP hD hS hl
  exact lv_icmp_ge hx.1 hx.2.1 hd ht (fun _ => kk H locs ls hP hD hS hl) (fun h => absurd hc h)
theorem k_ge_f (hx : k_ok C cc own gs) {a b : Int} {off : Int} {tgt : Nat} (hd : decode cc pc = .ok (.if_icmp .ge off, 3)) (ht : (pc : Int) + off = (tgt : Int)) (hc : ¬ zi b ≤ zi a) (kk : k_W C ws n k (pc + 3) lv st) : k_W C ws n k pc lv (.int (zi b) :: .int (zi a) :: st) := by
  obtain ⟨p, l, e, R, s, m, args, below, meth, c, Q, cells, slots, A, H0, nL, g⟩ := C
  intro H locs ls hP hD hS hl
  exact lv_icmp_ge hx.1 hx.2.1 hd ht (fun h => absurd h hc) (fun _ => kk H locs ls hP hD hS hl)
theorem k_obj (hx : k_ok C cc own gs) {idx : Nat} {a : Nat} (hw : Cond.methodLink own idx Lib.objectInit ∈ z_ws) (hi : Cond.instanceMethod Lib.objectInit ∈ z_ws) (hc : Cond.code Lib.objectInit ⟨#[0xb1]⟩ 1 none ∈ z_ws) (hR : 1 ≤ (z_R C).frames ∧ 12 ≤ (z_R C).locals) (hd : decode cc pc = .ok (.invokespecial idx, 3)) (kk : k_W C ws n k (pc + 3) lv []) : k_W C ws n k pc lv [.ref a] := by
  obtain ⟨p, l, e, R, s, m, args, below, meth, c, Q, cells, slots, A, H0, nL, g⟩ := C
  intro H locs ls hP hD hS hl
  obtain ⟨h1, h2, h3, h4, h5, h6, h7, h8, h9, h10, h11⟩ := hx
  refine W.objInit h1 h2 h4 (h5 _ hw) (h5 _ hi) (h5 _ hc) rfl (by rw [h3]; exact hl.1) rfl hd hR.1 (by exact hR.2) ?_
  exact W.eq (g2 := F0 m (pc + 3) ls []) rfl (kk H locs ls hP hD hS hl)
theorem k_get (hx : k_ok C cc own gs) {CN : String} {T : u_T} {N ci index a : Nat} {fs : List Value} (q0 : Nat) (he : ws[q0]? = some (a, .inr (ci, fs))) (hc : vwCl[ci]? = some (CN, T, N)) (hin : ∀ w ∈ u_ws CN T N, w ∈ z_ws) (j : Nat) (hj : j < N) (hw : Cond.fieldLink own index CN (T j).2.1 (T j).2.2.1 ∈ z_ws) (hT : (T j).1 = CN) {v : Value} (hv : fs[j]? = some v) (hd : decode cc pc = .ok (.getfield index, 3)) (kk : k_W C ws n k (pc + 3) lv (v :: st)) : k_W C ws n k pc lv (.ref a :: st) := by
  obtain ⟨p, l, e, R, s, m, args, below, meth, c, Q, cells, slots, A, H0, nL, g⟩ := C
  intro H locs ls hP hD hS hl
  obtain ⟨h1, h2, h3, h4, h5, h6, h7, h8, h9, h10, h11⟩ := hx
  exact va_get h1 h2 h5 hin h4 h6 hP q0 he hc j hj (h5 _ hw) (fun x hx => by rw [← hT]; exact hx) hv hd (kk H locs ls hP hD hS hl)
theorem k_put (hx : k_ok C cc own gs) {CN : String} {T : u_T} {N ci index a : Nat} {fs : List Value} (q0 : Nat) (he : ws[q0]? = some (a, .inr (ci, fs))) (hc : vwCl[ci]? = some (CN, T, N)) (hin : ∀ w ∈ u_ws CN T N, w ∈ z_ws) (ty0 : Nat → FieldType) (hty : ∀ k, k < N → parseFieldDescriptor (T k).2.2.1 = some (ty0 k)) (hnm : ∀ a, a < N → ∀ b, b < N → a ≠ b → (T a).2.1 ≠ (T b).2.1) (j : Nat) (hj : j < N) (hw : Cond.fieldLink own index CN (T j).2.1 (T j).2.2.1 ∈ z_ws) (hT : (T j).1 = CN) (hfin : (T j).2.2.2 = false) {v : Int} (hI : ty0 j = .int) (hl0 : j < fs.length) {ws' : va_W} (hws : ws.set q0 (a, .inr (ci, fs.set j (.int (zi v)))) = ws') (hd : decode cc pc = .ok (.putfield index, 3)) (kk : k_W C ws' n k (pc + 3) lv st) : k_W C ws n k pc lv (.int (zi v) :: .ref a :: st) := by
  obtain ⟨p, l, e, R, s, m, args, below, meth, c, Q, cells, slots, A, H0, nL, g⟩ := C
  intro H locs ls hP hD hS hl
  obtain ⟨h1, h2, h3, h4, h5, h6, h7, h8, h9, h10, h11⟩ := hx
  subst hws
  exact va_put h1 h2 h5 hin ty0 hty hnm h4 h6 hP hD hS q0 he hc j hj (h5 _ hw) (fun x hx => by rw [← hT]; exact hx) hfin (ty := .int) (v := .int (zi v)) (by rw [hty j hj, hI]) rfl rfl hl0 hd (fun H1 locs1 hP1 hD1 hS1 => kk H1 locs1 ls hP1 hD1 hS1 hl)
theorem k_putF (hx : k_ok C cc own gs) {CN : String} {T : u_T} {N ci index a : Nat} {fs : List Value} (q0 : Nat) (he : ws[q0]? = some (a, .inr (ci, fs))) (hc : vwCl[ci]? = some (CN, T, N)) (hin : ∀ w ∈ u_ws CN T N, w ∈ z_ws) (ty0 : Nat → FieldType) (hty : ∀ k, k < N → parseFieldDescriptor (T k).2.2.1 = some (ty0 k)) (hnm : ∀ a, a < N → ∀ b, b < N → a ≠ b → (T a).2.1 ≠ (T b).2.1) (j : Nat) (hj : j < N) (hw : Cond.fieldLink own index CN (T j).2.1 (T j).2.2.1 ∈ z_ws) (hT : (T j).1 = CN) (hfin : (T j).2.2.2 = true) (hdecl : (T j).1 = own) {v : Nat} (hn : narrow (ty0 j) (.ref v) = .ref v) (hfit : fits (ty0 j) (.ref v) = true) (hl0 : j < fs.length) {ws' : va_W} (hws : ws.set q0 (a, .inr (ci, fs.set j (.ref v))) = ws') (hd : decode cc pc = .ok (.putfield index, 3)) (kk : k_W C ws' n k (pc + 3) lv st) : k_W C ws n k pc lv (.ref v :: .ref a :: st) := by
  obtain ⟨p, l, e, R, s, m, args, below, meth, c, Q, cells, slots, A, H0, nL, g⟩ := C
  intro H locs ls hP hD hS hl
  obtain ⟨h1, h2, h3, h4, h5, h6, h7, h8, h9, h10, h11⟩ := hx
  subst hws
  exact va_putF h1 h2 h5 hin ty0 hty hnm h4 h6 hP hD hS q0 he hc j hj (h5 _ hw) (fun x hx => by rw [← hT]; exact hx) hfin h9 hdecl (ty := ty0 j) (v := .ref v) (hty j hj) hn hfit hl0 hd (fun H1 locs1 hP1 hD1 hS1 => kk H1 locs1 ls hP1 hD1 hS1 hl)
theorem k_putR (hx : k_ok C cc own gs) {CN : String} {T : u_T} {N ci index a : Nat} {fs : List Value} (q0 : Nat) (he : ws[q0]? = some (a, .inr (ci, fs))) (hc : vwCl[ci]? = some (CN, T, N)) (hin : ∀ w ∈ u_ws CN T N, w ∈ z_ws) (ty0 : Nat → FieldType) (hty : ∀ k, k < N → parseFieldDescriptor (T k).2.2.1 = some (ty0 k)) (hnm : ∀ a, a < N → ∀ b, b < N → a ≠ b → (T a).2.1 ≠ (T b).2.1) (j : Nat) (hj : j < N) (hw : Cond.fieldLink own index CN (T j).2.1 (T j).2.2.1 ∈ z_ws) (hT : (T j).1 = CN) (hfin : (T j).2.2.2 = false) {v : Nat} (hn : narrow (ty0 j) (.ref v) = .ref v) (hfit : fits (ty0 j) (.ref v) = true) (hl0 : j < fs.length) {ws' : va_W} (hws : ws.set q0 (a, .inr (ci, fs.set j (.ref v))) = ws') (hd : decode cc pc = .ok (.putfield index, 3)) (kk : k_W C ws' n k (pc + 3) lv st) : k_W C ws n k pc lv (.ref v :: .ref a :: st) := by
  obtain ⟨p, l, e, R, s, m, args, below, meth, c, Q, cells, slots, A, H0, nL, g⟩ := C
  intro H locs ls hP hD hS hl
  obtain ⟨h1, h2, h3, h4, h5, h6, h7, h8, h9, h10, h11⟩ := hx
  subst hws
  exact va_put h1 h2 h5 hin ty0 hty hnm h4 h6 hP hD hS q0 he hc j hj (h5 _ hw) (fun x hx => by rw [← hT]; exact hx) hfin (ty := ty0 j) (v := .ref v) (hty j hj) hn hfit hl0 hd (fun H1 locs1 hP1 hD1 hS1 => kk H1 locs1 ls hP1 hD1 hS1 hl)
theorem k_newI (hx : k_ok C cc own gs) {v : Int} {N : Nat} (hw : Cond.arrayClass .int ∈ z_ws) (hv : 0 ≤ v) (hN : v.toNat = N) (hb : N ≤ 100000) (hR : n + 1 ≤ (z_R C).cells ∧ k + N ≤ (z_R C).slots) (hd : decode cc pc = .ok (.newarray .int, 2)) (kk : ∀ q, k_W C (ws ++ [(q, k_I (z_g C) N k_0)]) (n + 1) (k + N) (pc + 2) lv (.ref q :: st)) : k_W C ws n k pc lv (.int (zi v) :: st) := by
  obtain ⟨p, l, e, R, s, m, args, below, meth, c, Q, cells, slots, A, H0, nL, g⟩ := C
  intro H locs ls hP hD hS hl
  obtain ⟨h1, h2, h3, h4, h5, h6, h7, h8, h9, h10, h11⟩ := hx
  refine va_newa (atype := .int) (ty := .int) (N' := N) (a0 := (N, .inl (z_ar k_0))) h1 h2 (h5 _ hw) rfl h6 hP hD hS h7 (fun cA => rfl) (by rw [zi_neg_iff (by unfold zr; omega)]; omega) (by rw [zi_clamp hv (by omega)]; exact hN) (by show N * 4 ≤ 536870912; omega) hR.1 hR.2 hd (fun q cA H1 hK1 hP1 hD1 hS1 => ?_)
  have e1 := (hK1.2 3 (cA, .int) rfl).2
  have e2 := (h6.2 0 (g.2.2.1, .int) rfl).2
  have : cA = g.2.2.1 := Option.some.inj (e1.symm.trans e2)
  subst this
  exact kk q H1 locs ls hP1 hD1 hS1 hl
theorem k_newZ (hx : k_ok C cc own gs) {v : Int} {N : Nat} (hw : Cond.arrayClass .boolean ∈ z_ws) (hv : 0 ≤ v) (hN : v.toNat = N) (hb : N ≤ 100000) (hR : n + 1 ≤ (z_R C).cells ∧ k + N ≤ (z_R C).slots) (hd : decode cc pc = .ok (.newarray .boolean, 2)) (kk : ∀ q, k_W C (ws ++ [(q, k_Z (z_g C) N k_0)]) (n + 1) (k + N) (pc + 2) lv (.ref q :: st)) : k_W C ws n k pc lv (.int (zi v) :: st) := by
  obtain ⟨p, l, e, R, s, m, args, below, meth, c, Q, cells, slots, A, H0, nL, g⟩ := C
  intro H locs ls hP hD hS hl
  obtain ⟨h1, h2, h3, h4, h5, h6, h7, h8, h9, h10, h11⟩ := hx
  refine va_newa (atype := .boolean) (ty := .boolean) (N' := N) (a0 := (N, .inl (z_ar k_0))) h1 h2 (h5 _ hw) rfl h6 hP hD hS h7 (fun cA => rfl) (by rw [zi_neg_iff (by unfold zr; omega)]; omega) (by rw [zi_clamp hv (by omega)]; exact hN) (by show N * 1 ≤ 536870912; omega) hR.1 hR.2 hd (fun q cA H1 hK1 hP1 hD1 hS1 => ?_)
  have e1 := (hK1.2 3 (cA, .boolean) rfl).2
  have e2 := (h6.2 1 (g.2.2.2.1, .boolean) rfl).2
  have : cA = g.2.2.2.1 := Option.some.inj (e1.symm.trans e2)
  subst this
  exact kk q H1 locs ls hP1 hD1 hS1 hl
theorem k_newR (hx : k_ok C cc own gs) {v : Int} {N index : Nat} (hw : Cond.classLink own index RX2 ∈ z_ws) (hv : 0 ≤ v) (hN : v.toNat = N) (hb : N ≤ 100000) (hR : n + 1 ≤ (z_R C).cells ∧ k + N ≤ (z_R C).slots) (hd : decode cc pc = .ok (.anewarray index, 3)) (kk : ∀ q, k_W C (ws ++ [(q, k_R (z_g C) N (fun _ => none))]) (n + 1) (k + N) (pc + 3) lv (.ref q :: st)) : k_W C ws n k pc lv (.int (zi v) :: st) := by
  obtain ⟨p, l, e, R, s, m, args, below, meth, c, Q, cells, slots, A, H0, nL, g⟩ := C
  intro H locs ls hP hD hS hl
  obtain ⟨h1, h2, h3, h4, h5, h6, h7, h8, h9, h10, h11⟩ := hx
  refine va_newq (C := RX2) (N' := N) h1 h2 h4 (h5 _ hw) h10.2.2.2.2 h6 hP hD hS h7 (by rw [zi_neg_iff (by unfold zr; omega)]; omega) (by rw [zi_clamp hv (by omega)]; exact hN) (by omega) hR.1 hR.2 hd (fun q cA H1 hK1 hP1 hD1 hS1 => ?_)
  obtain ⟨kA, comp, a1, a2, a3, e1⟩ := (hK1.2 3 (cA, .object RX2) rfl).2
  obtain ⟨kB, comp2, b1, b2, b3, e2⟩ := (h6.2 2 (g.2.2.2.2.1, .object RX2) rfl).2
  have : cA = g.2.2.2.2.1 := Option.some.inj (e1.symm.trans e2)
  subst this
  exact kk q H1 locs ls hP1 hD1 hS1 hl
theorem k_iast (hx : k_ok C cc own gs) {a N : Nat} {f : Int → Int} (q0 : Nat) (he : ws[q0]? = some (a, k_I (z_g C) N f)) (hb : N ≤ 100000) {i v : Int} (hi : 0 ≤ i ∧ i < (N : Int)) {ws' : va_W} (hws : ws.set q0 (a, k_I (z_g C) N (fun b => if b = i then v else f b)) = ws') (hd : decode cc pc = .ok (.iastore, 1)) (kk : k_W C ws' n k (pc + 1) lv st) : k_W C ws n k pc lv (.int (zi v) :: .int (zi i) :: .ref a :: st) := by
  obtain ⟨p, l, e, R, s, m, args, below, meth, c, Q, cells, slots, A, H0, nL, g⟩ := C
  intro H locs ls hP hD hS hl
  obtain ⟨h1, h2, h3, h4, h5, h6, h7, h8, h9, h10, h11⟩ := hx
  subst hws
  refine va_iast h1 h2 h6 hP hD hS q0 0 he rfl (zi_in hi.1 hi.2 (by omega)) hd (fun H1 locs1 hP1 hD1 hS1 => ?_)
  rw [z_ar_up hi.1 (by omega)] at hP1 hD1
  exact kk H1 locs1 ls hP1 hD1 hS1 hl
theorem k_astq (hx : k_ok C cc own gs) {a N v : Nat} {vs : List Value} {f : Nat → Option Nat} (q0 qk : Nat) (he : ws[q0]? = some (a, k_R (z_g C) N f)) (hk : ws[qk]? = some (v, .inr (2, vs))) (hb : N ≤ 100000) {i : Int} {j : Nat} (hi : 0 ≤ i ∧ i < (N : Int)) (hj : i.toNat = j) {ws' : va_W} (hws : ws.set q0 (a, k_R (z_g C) N (va_up f j (some v))) = ws') (hd : decode cc pc = .ok (.aastore, 1)) (kk : k_W C ws' n k (pc + 1) lv st) : k_W C ws n k pc lv (.ref v :: .int (zi i) :: .ref a :: st) := by
  obtain ⟨p, l, e, R, s, m, args, below, meth, c, Q, cells, slots, A, H0, nL, g⟩ := C
  intro H locs ls hP hD hS hl
  obtain ⟨h1, h2, h3, h4, h5, h6, h7, h8, h9, h10, h11⟩ := hx
  subst hws
  refine va_astq (r := (RX2, TX2, 9)) h1 h2 h6 hP hD hS q0 2 qk 2 he rfl hk rfl (zi_in hi.1 hi.2 (by omega)) hd (fun H1 locs1 hP1 hD1 hS1 => ?_)
  rw [zi_clamp hi.1 (by omega), hj] at hP1 hD1
  exact kk H1 locs1 ls hP1 hD1 hS1 hl
theorem k_new (hx : k_ok C cc own gs) {CN : String} {T : u_T} {N ci index : Nat} (hc : vwCl[ci]? = some (CN, T, N)) (hin : ∀ w ∈ u_ws CN T N, w ∈ z_ws) (ty0 : Nat → FieldType) (hty : ∀ k, k < N → parseFieldDescriptor (T k).2.2.1 = some (ty0 k)) (hcl : Cond.classLink own index CN ∈ z_ws) (hinst : Cond.instantiable CN N ∈ z_ws) (hini : Cond.initialized CN ∈ z_ws) (fs : List Value) (hfs : ∀ j, j < N → defaultValue (ty0 j) = vp_V fs j) (hR : n + 1 ≤ (z_R C).cells ∧ k + N ≤ (z_R C).slots) (hd : decode cc pc = .ok (.new index, 3)) (kk : ∀ q, k_W C (ws ++ [(q, .inr (ci, fs))]) (n + 1) (k + N) (pc + 3) lv (.ref q :: st)) : k_W C ws n k pc lv st := by
  obtain ⟨p, l, e, R, s, m, args, below, meth, c, Q, cells, slots, A, H0, nL, g⟩ := C
  intro H locs ls hP hD hS hl
  obtain ⟨h1, h2, h3, h4, h5, h6, h7, h8, h9, h10, h11⟩ := hx
  exact va_new h1 h2 h5 hin ty0 hty h4 (h5 _ hcl) (h5 _ hinst) (h5 _ hini) h6 hP hD hS h7 hc hfs hR.1 hR.2 hd (fun q H1 hP1 hD1 hS1 => kk q H1 locs ls hP1 hD1 hS1 hl)
theorem k_call (hx : k_ok C cc own gs) {y : MethodName} {cc' : ByteArray} {nL' idx : Nat} {rm' : Room} {q : Nat} {e0 : va_E} {wd : (Nat → Nat) → va_W} (hM : k_Met (z_l C) y cc' nL' rm' (z_g C) gs q e0 wd) (hw : (Cond.methodLink own idx y ∈ z_ws) ∨ (C.2.2.2.2.1).vm = (C.2.2.2.2.1).vm ∧ ∃ host, (k_Ne C.2.2.2.2.1 → va_Nw (.methodLinkNest own idx y host) C.2.2.2.2.1)) (hi : Cond.instanceMethod y ∈ z_ws) (hini : Cond.initialized y.cls ∈ z_ws) (hcode : Cond.code y cc' nL' none ∈ z_ws) (hnm : y.name = "<init>") (hdd : y.cls ≠ "java/lang/invoke/MethodHandle" ∧ y.cls ≠ "java/lang/invoke/VarHandle" ∧ (parseMethodDescriptor y.desc).map (fun d => d.parameters.length) = some 0) (hR : (rm'.frames + 1 ≤ (z_R C).frames ∧ 8 + (nL' + 11) + rm'.locals ≤ (z_R C).locals) ∧ n + rm'.cells ≤ (z_R C).cells ∧ k + rm'.slots ≤ (z_R C).slots) (ic : Nat) (isR : List Nat) {wr : va_W} (hic : ws[ic]? = some (q, e0)) (hisR : isR.map (fun i => ws[i]?) = wr.map some) (hnd : va_nd isR = true) (hdis : ∀ i ∈ isR, i ∉ [ic]) (hsum : (st.map fun v => v.category).sum ≤ 8) (hd : decode cc pc = .ok (.invokespecial idx, 3)) (kk : ∀ u, k_W C (wr ++ wd u) (n + rm'.cells) (k + rm'.slots) (pc + 3) lv st) : k_W C ws n k pc lv (.ref q :: st) := by
  obtain ⟨p, l, e, R, s, m, args, below, meth, c, Q, cells, slots, A, H0, nL, g⟩ := C
  intro H locs ls hP hD hS hl
  obtain ⟨h1, h2, h3, h4, h5, h6, h7, rfl, h9, h10, h11⟩ := hx
  have hC : [ic].map (fun i => ws[i]?) = ([(q, e0)] : va_W).map some := by show [ws[ic]?] = [some (q, e0)]; rw [hic]
  have hFc := va_free (wc := [(q, e0)]) hD hS h7 [ic] hC
  have hPc := hP.sub (ws' := [(q, e0)]) [ic] (by show List.filterMap (fun i => ws[i]?) [ic] = _; simp [hic])
  have hDc := hD.sub (ws' := [(q, e0)]) [ic] rfl hC
  have hG : GoodIn z_ws (.code y cc' nL' none :: z_ws) := fun w h => by
    rcases List.mem_cons.mp h with rfl | h
    · exact ⟨hcode, good_of_word (List.mem_filter.mp hcode).2⟩
    · exact ⟨h, good_of_word (List.mem_filter.mp h).2⟩
  have hpre : PreS s H (va_Pc [.ref q] (fun U => U.heap.size = H.size ∧ va_P g.2.2.2.2.2 vwCl [(q, e0)] U.heap ∧ va_K g.2.2.2.2.2 vwCl (z_tys g) U ∧ va_D (fun _ => True) [(q, e0)] ∧ k_Ne U ∧ k_St (va_A [(q, e0)] H.size) U U.heap gs)) [.ref q] := ⟨fun a U f mk z => ⟨z.1, z.2.1, z.2.2.1, va_K.moved (u := U) (U := U.calling f mk a) (Vm.Alike.refl U.vm) z.2.2.2.1, z.2.2.2.2.1, z.2.2.2.2.2.1.same (U := U.calling f mk a) rfl, z.2.2.2.2.2.2.1.moved (u := U) (U := U.calling f mk a) (Vm.Alike.refl U.vm), z.2.2.2.2.2.2.2.1.moved (u := U) (U := U.calling f mk a) (Vm.Alike.refl U.vm), z.2.2.2.2.2.2.2.2⟩, fun U hU hW => ⟨rfl, by rw [hU], by rw [hU]; exact hPc, va_K.moved hW.alike h6, hDc.weaken (fun _ _ _ _ => trivial), h10.warm hW, by rw [hU]; exact h11.go hS hFc hW.alike⟩⟩
  have hrun : va_Run p l e R s m args below meth c H locs n k rm'.cells rm'.slots (F0 m pc ls (.ref q :: st)) st (va_Qv (fun (_ : Nat → Nat) => True) (fun u t => va_P g.2.2.2.2.2 vwCl (wd u) t.heap ∧ va_K g.2.2.2.2.2 vwCl (z_tys g) t ∧ va_D (va_A [(q, e0)] H.size) (wd u)) (va_A [(q, e0)] H.size) (Value.ref q :: []).toArray) (va_A [(q, e0)] H.size) := by
    rcases hw with hw | ⟨-, host, hw⟩
    · exact va_runI (As := []) (rest := st) ⟨h1, h2, h3, h4, h5⟩ (hM H.size) (cwI 0 h5 hG rfl rfl rfl (h5 _ hini) (h5 _ hw) (h5 _ hi) hnm hdd hR.1) hpre rfl rfl hl.1 rfl (lv_room hsum) hd hR.2
    · exact va_runIN (As := []) (rest := st) (host := host) ⟨h1, h2, h3, h4, h5⟩ (hM H.size) ⟨va_cnB 0 h5 hG rfl rfl rfl (hw h10) (h5 _ hini) hdd hR.1, hnm, h5 _ hi⟩ hpre rfl rfl hl.1 rfl (lv_room hsum) hd hR.2
  refine va_callv hrun hS (fun q _ h => hFc q h) hFc (fun u t H1 locs1 ht hvm hw1 hB hz1 hk1 hS1 => ?_)
  obtain ⟨hP1, hK1, hD1⟩ := hB
  rw [ht] at hP1
  obtain ⟨hP2, hD2⟩ := va_join (wr := wr) (w1 := wd u) hP hD [ic] isR hC hisR hnd hdis hk1 hFc hP1 hD1
  exact kk u H1 locs1 ls hP2 hD2 hS1 hl
theorem k_gets (hx : k_ok C cc RX2 gs) (hd : decode cc pc = .ok (.getstatic 41, 3)) (kk : k_W C ws n k (pc + 3) lv (.ref gs :: st)) : k_W C ws n k pc lv st := by
  obtain ⟨p, l, e, R, s, m, args, below, meth, c, Q, cells, slots, A, H0, nL, g⟩ := C
  intro H locs ls hP hD hS hl
  obtain ⟨h1, h2, h3, h4, h5, h6, h7, rfl, h9, h10, h11⟩ := hx
  exact va_getsN h1 h2 h11.1 hS h4 (va_Nw.use rfl h10.1) (fun x h => h) hd (kk H locs ls hP hD hS hl)
theorem k_copy (hx : k_ok C cc own gs) {index a : Nat} (hw : Cond.methodLink own index arraycopyName ∈ z_ws) (hna : Cond.native arraycopyName ∈ z_ws) (hst : Cond.static arraycopyName ∈ z_ws) (hini : Cond.initialized "java/lang/System" ∈ z_ws) (q1 : Nat) (he : ws[q1]? = some (a, k_I (z_g C) 7 k_0)) {ws' : va_W} (hws : ws.set q1 (a, k_I (z_g C) 7 k_set) = ws') (hR : 1 ≤ (z_R C).frames ∧ 60 ≤ (z_R C).locals) (hsum : (st.map fun v => v.category).sum ≤ 8) (hd : decode cc pc = .ok (.invokestatic index, 3)) (kk : k_W C ws' n k (pc + 3) lv st) : k_W C ws n k pc lv (.int (zi 7) :: .int (zi 0) :: .ref a :: .int (zi 0) :: .ref gs :: st) := by
  obtain ⟨p, l, e, R, s, m, args, below, meth, c, Q, cells, slots, A, H0, nL, g⟩ := C
  intro H locs ls hP hD hS hl
  obtain ⟨h1, h2, h3, h4, h5, h6, h7, rfl, h9, h10, h11⟩ := hx
  subst hws
  have hl1 : (st.map fun v => v.category).sum + (nativeFrameWords "java/lang/System" "arraycopy" 5 + 11) ≤ R.locals := by
    have : nativeFrameWords "java/lang/System" "arraycopy" 5 + 11 ≤ 52 := by decide
    have hR2 : 60 ≤ R.locals := hR.2
    omega
  refine va_copyx h1 h2 (by rw [h3]; exact hl.1.symm) h4 (h5 _ hw) (h5 _ hna) (h5 _ hst) (h5 _ hini) h6 hP hD hS h11.2.1 h11.2.2.1 h11.2.2.2 q1 0 he rfl (sp := zi 0) (dp := zi 0) (n := zi 7) (by decide) (by decide) (by decide) (by decide) (by decide) hR.1 hl1 hd (fun H1 locs1 hP1 hD1 hS1 => ?_)
  have hee : va_cpy (fun j => zi (z_init (j : Int))) (z_ar k_0) (zi 0).toNatClampNeg (zi 0).toNatClampNeg (zi 7).toNatClampNeg = z_ar k_set := by
    funext j
    rw [zi_clamp (by omega) (by omega), zi_clamp (by omega) (by omega)]
    show (if (0 : Int).toNat ≤ j ∧ j < (0 : Int).toNat + (7 : Int).toNat then zi (z_init (((0 : Int).toNat + (j - (0 : Int).toNat) : Nat) : Int)) else zi (k_0 (j : Int))) = zi (k_set (j : Int))
    unfold k_set k_0
    by_cases h : j < 7
    · rw [if_pos ⟨by omega, by show j < 7; exact h⟩, if_pos (by omega)]
      exact congrArg (fun z : Nat => zi (z_init (z : Int))) (by show 0 + (j - 0) = j; omega)
    · rw [if_neg (fun q => h (by have := q.2; exact this)), if_neg (by omega)]
  rw [hee] at hP1 hD1
  exact kk H1 locs1 ls hP1 hD1 hS1 hl
/-- a row of references: what stands behind its end doesn't matter -/
theorem k_ref {a N : Nat} {f f' : Nat → Option Nat} (q0 : Nat) (he : ws[q0]? = some (a, k_R (z_g C) N f)) (hf : ∀ i, i < N → f i = f' i) {ws' : va_W} (hws : ws.set q0 (a, k_R (z_g C) N f') = ws') (kk : k_W C ws' n k pc lv st) : k_W C ws n k pc lv st := by
  obtain ⟨p, l, e, R, s, m, args, below, meth, c, Q, cells, slots, A, H0, nL, g⟩ := C
  intro H locs ls hP hD hS hl
  subst hws
  have hcell : arrV g.2.2.2.2.1 N (fun j => va_rf (f j)) = arrV g.2.2.2.2.1 N (fun j => va_rf (f' j)) := by
    unfold arrV
    congr 1
    apply congrArg
    funext j
    show va_rf (f j.val) = va_rf (f' j.val)
    rw [hf j.val j.isLt]
  refine kk H locs ls (fun i x hx => ?_) ⟨fun i j x y hi hj hxy => ?_, fun i x hx => ?_⟩ hS hl
  · rw [List.getElem?_set] at hx
    by_cases h : q0 = i
    · subst h
      have hlt : q0 < ws.length := (List.getElem?_eq_some_iff.mp he).1
      rw [if_pos rfl, if_pos hlt] at hx
      cases hx
      have := hP q0 _ he
      show H[a]? = some (arrV g.2.2.2.2.1 N (fun j => va_rf (f' j)))
      rw [← hcell]
      exact this
    · rw [if_neg h] at hx
      exact hP i x hx
  · have key : ∀ (i : Nat) (x : Nat × va_E), (ws.set q0 (a, k_R g N f'))[i]? = some x → ∃ x', ws[i]? = some x' ∧ x'.1 = x.1 := fun i x hx => by
      rw [List.getElem?_set] at hx
      by_cases h : q0 = i
      · subst h
        have hlt : q0 < ws.length := (List.getElem?_eq_some_iff.mp he).1
        rw [if_pos rfl, if_pos hlt] at hx
        cases hx
        exact ⟨_, he, rfl⟩
      · rw [if_neg h] at hx
        exact ⟨x, hx, rfl⟩
    obtain ⟨x', hx', ex⟩ := key i x hi
    obtain ⟨y', hy', ey⟩ := key j y hj
    exact hD.1 i j x' y' hx' hy' (by rw [ex, ey, hxy])
  · rw [List.getElem?_set] at hx
    by_cases h : q0 = i
    · subst h
      have hlt : q0 < ws.length := (List.getElem?_eq_some_iff.mp he).1
      rw [if_pos rfl, if_pos hlt] at hx
      cases hx
      have := hD.2 q0 _ he
      exact this
    · rw [if_neg h] at hx
      exact hD.2 i x hx
theorem k_ret (hx : k_ok C cc own gs) {wd : (Nat → Nat) → va_W} (hq : k_fin C wd) (u : Nat → Nat) (is : List Nat) (hp : is.filterMap (fun i => ws[i]?) = wd u) (hnd : va_nd is = true) (hm : is.map (fun i => ws[i]?) = (wd u).map some) (hR : n ≤ (z_R C).cells ∧ k ≤ (z_R C).slots) (hd : decode cc pc = .ok (.return_, 1)) : k_W C ws n k pc lv [] := by
  obtain ⟨p, l, e, R, s, m, args, below, meth, c, Q, cells, slots, A, H0, nL, g⟩ := C
  intro H locs ls hP hD hS hl
  obtain ⟨h1, h2, h3, h4, h5, h6, h7, rfl, h9, h10, h11⟩ := hx
  obtain ⟨q1, q2, q3⟩ := hq
  rw [q3]
  refine W.widen hR.1 hR.2 ?_
  exact W.vret h1 h2 q1 (fun t ht hW => ⟨⟨u, rfl, trivial, by rw [ht]; exact hP.sub is hp, va_K.moved hW.alike h6, hD.sub is hnd hm⟩, hS.F ht⟩) hS.2.2 hd q2
end
