/-! CONTRACTS, CALLS, BEGINNINGS AND ENDS -/
/-- the world behind a method -/
def z_B (g : zG) (A : Nat → Prop) (u : zS) (t : State) : Prop := va_P g.2.2.2.2.2 vwCl (z_w g u) t.heap ∧ va_K g.2.2.2.2.2 vwCl (z_tys g) t ∧ va_D A (z_w g u)
def z_QI (g : zG) (r0 : Int) (σ' : zS) (A : Nat → Prop) : Array Value → State → Outcome → State → Prop := va_Qi (fun (x : Int32) (u : zS) => x = zi r0 ∧ u = σ') (z_B g A) A
def z_QV (g : zG) (σ' : zS) (A : Nat → Prop) : Array Value → State → Outcome → State → Prop := va_Qv (fun (u : zS) => u = σ') (z_B g A) A
def z_QL (g : zG) (r0 : Int) (σ' : zS) (A : Nat → Prop) : Array Value → State → Outcome → State → Prop := va_Ql (fun (x : Int64) (u : zS) => x = zl r0 ∧ u = σ') (z_B g A) A
def z_QR (g : zG) (k : Nat) (σ' : zS) (A : Nat → Prop) : Array Value → State → Outcome → State → Prop := va_Qr (fun (u : zS) => u = σ') (fun u a t => a = z_ad g k ∧ z_B g A u t) A
/-- what a method finds: the world, the classes -/
def z_Pre (g : zG) (σ : zS) (sz : Nat) (U : State) : Prop := U.heap.size = sz ∧ va_P g.2.2.2.2.2 vwCl (z_w g σ) U.heap ∧ va_K g.2.2.2.2.2 vwCl (z_tys g) U ∧ va_D (fun _ => True) (z_w g σ)
/-- a method's contract over a world: from what the cells hold to what they hold then -/
def z_Met (l : Launch) (y : MethodName) (cc : ByteArray) (nL : Nat) (ret : Option FieldType) (rm : Room) (g : zG) (av : List Value) (σ : zS) (Qk : (Nat → Prop) → Array Value → State → Outcome → State → Prop) : Prop :=
  ∀ sz : Nat, Met l y (.code y cc nL ret :: z_ws) rm (va_Pc av (z_Pre g σ sz)) (Qk (va_A (z_w g σ) sz)) 0 0 (va_A (z_w g σ) sz)
abbrev z_nL (C : zC) : Nat := C.2.2.2.2.2.2.2.2.2.2.2.2.2.2.2.1
/-- the end that is due -/
def z_fin (C : zC) (ret : Option FieldType) (Qk : (Nat → Prop) → Array Value → State → Outcome → State → Prop) : Prop := match C with
  | (_, _, _, _, s, _, args, below, meth, _, Q, cells, slots, A, _, _, _) => meth.sig.returnType = ret ∧ meth.locks = false ∧ Q = MQ below (Qk A) args s cells slots A
theorem z_enter {l : Launch} {y : MethodName} {cc : ByteArray} {nL : Nat} {ret : Option FieldType} {rm : Room} {g : zG} {av : List Value} {σ : zS} {Qk : (Nat → Prop) → Array Value → State → Outcome → State → Prop} {own : String} {sd : Nat} {lv0 : List (Nat × Value)} (hy : plainName y.cls = true) (hown : y.cls = own) (hlen : (lg_sl av).length ≤ nL) (hg : g.1 = sd) (hlv : lv_args 0 av = lv0)
    (body : ∀ C : zC, z_ok C cc own sd → z_l C = l → z_g C = g → z_R C = rm → z_nL C = nL → z_fin C ret Qk → z_W C σ 0 lv0 []) : z_Met l y cc nL ret rm g av σ Qk := by
  intro sz
  refine Met.ofW (cc := cc) (maxL := nL) (ret := ret) hy rfl ?_
  intro p e s m args below meth c s₁ B hml hv
  obtain ⟨rfl, hsz, hP, hK, hD0⟩ := hv
  have hx := B.exec
  have hb := B.bytes
  have hr := B.returns
  have hts := atoms_spec (ws := .code y cc nL ret :: z_ws) B.pre
  have hown2 : s.vm.findClass y.cls = some m.cls := findClass_of_methodNamed B.named
  have hlocks := B.notSynchronized
  subst hsz
  have hD := hD0.self (sz := s.heap.size)
  have hl := lv_entry av (n := nL) hlen
  rw [lg_entry_eq]
  rw [hlv] at hl
  refine body (p, l, e, rm, s, m, av.toArray, below, meth, c, MQ below (Qk (va_A (z_w g σ) s.heap.size)) av.toArray s 0 0 (va_A (z_w g σ) s.heap.size), 0, 0, va_A (z_w g σ) s.heap.size, s.heap, nL, g) ?_ rfl rfl rfl rfl ⟨hr, hlocks, rfl⟩ s.heap [] _ hP va_S.rf hl
  exact ⟨hx, hb, hml, hown ▸ hown2, fun w hw => hts w (List.mem_cons_of_mem _ hw), hK, fun τ => z_wd_D hD, fun q h => Or.inr h, hg, Nat.zero_le _, Nat.zero_le _, rfl⟩
section
variable {C : zC} {cc : ByteArray} {own : String} {sd : Nat} {σ : zS} {pc : Nat} {lv : List (Nat × Value)} {st : List Value} {α : Type} {r : α}
theorem z_iret (hx : z_ok C cc own sd) {r0 : Int} (hq : z_fin C (some .int) (z_QI (z_g C) r0 σ)) (hd : decode cc pc = .ok (.ireturn, 1)) : z_W C σ pc lv [.int (zi r0)] := by
  obtain ⟨p, l, e, R, s, m, args, below, meth, c, Q, cells, slots, A, H0, nL, g⟩ := C
  intro H locs ls hP hS hl
  obtain ⟨h1, h2, h3, h4, h5, h6, h7, h8, h9, h10, h11, rfl⟩ := hx
  obtain ⟨q1, q2, q3⟩ := hq
  rw [q3]
  exact W.iret h1 h2 q1 (fun t ht hW => ⟨⟨zi r0, σ, rfl, ⟨rfl, rfl⟩, by rw [ht]; exact hP, va_K.moved hW.alike h6, h7 σ⟩, hS.F ht⟩) hS.2.2 hd q2
theorem z_zret (hx : z_ok C cc own sd) {r0 : Int} (hz : 0 ≤ r0 ∧ r0 ≤ 1) (hq : z_fin C (some .boolean) (z_QI (z_g C) r0 σ)) (hd : decode cc pc = .ok (.ireturn, 1)) : z_W C σ pc lv [.int (zi r0)] := by
  obtain ⟨p, l, e, R, s, m, args, below, meth, c, Q, cells, slots, A, H0, nL, g⟩ := C
  intro H locs ls hP hS hl
  obtain ⟨h1, h2, h3, h4, h5, h6, h7, h8, h9, h10, h11, rfl⟩ := hx
  obtain ⟨q1, q2, q3⟩ := hq
  rw [q3]
  exact W.zret h1 h2 q1 (z_nar hz).2 (fun t ht hW => ⟨⟨zi r0, σ, rfl, ⟨rfl, rfl⟩, by rw [ht]; exact hP, va_K.moved hW.alike h6, h7 σ⟩, hS.F ht⟩) hS.2.2 hd q2
theorem z_vret (hx : z_ok C cc own sd) (hq : z_fin C none (z_QV (z_g C) σ)) (hd : decode cc pc = .ok (.return_, 1)) : z_W C σ pc lv [] := by
  obtain ⟨p, l, e, R, s, m, args, below, meth, c, Q, cells, slots, A, H0, nL, g⟩ := C
  intro H locs ls hP hS hl
  obtain ⟨h1, h2, h3, h4, h5, h6, h7, h8, h9, h10, h11, rfl⟩ := hx
  obtain ⟨q1, q2, q3⟩ := hq
  rw [q3]
  exact W.vret h1 h2 q1 (fun t ht hW => ⟨⟨σ, rfl, rfl, by rw [ht]; exact hP, va_K.moved hW.alike h6, h7 σ⟩, hS.F ht⟩) hS.2.2 hd q2
theorem z_lret (hx : z_ok C cc own sd) {r0 : Int} (hq : z_fin C (some .long) (z_QL (z_g C) r0 σ)) (hd : decode cc pc = .ok (.lreturn, 1)) : z_W C σ pc lv [.long (zl r0)] := by
  obtain ⟨p, l, e, R, s, m, args, below, meth, c, Q, cells, slots, A, H0, nL, g⟩ := C
  intro H locs ls hP hS hl
  obtain ⟨h1, h2, h3, h4, h5, h6, h7, h8, h9, h10, h11, rfl⟩ := hx
  obtain ⟨q1, q2, q3⟩ := hq
  rw [q3]
  exact W.lret h1 h2 q1 (fun t ht hW => ⟨⟨zl r0, σ, rfl, ⟨rfl, rfl⟩, by rw [ht]; exact hP, va_K.moved hW.alike h6, h7 σ⟩, hS.F ht⟩) hS.2.2 hd q2
theorem z_aret (hx : z_ok C cc own sd) {k : Nat} {n : String} (hq : z_fin C (some (.object n)) (z_QR (z_g C) k σ)) (hd : decode cc pc = .ok (.areturn, 1)) : z_W C σ pc lv [.ref (z_ad (z_g C) k)] := by
  obtain ⟨p, l, e, R, s, m, args, below, meth, c, Q, cells, slots, A, H0, nL, g⟩ := C
  intro H locs ls hP hS hl
  obtain ⟨h1, h2, h3, h4, h5, h6, h7, h8, h9, h10, h11, rfl⟩ := hx
  obtain ⟨q1, q2, q3⟩ := hq
  rw [q3]
  exact W.aret h1 h2 q1 (Or.inl ⟨n, rfl⟩) (Or.inr ⟨_, rfl⟩) (fun t ht hW => ⟨⟨σ, g.2.1 k, rfl, rfl, rfl, by rw [ht]; exact hP, va_K.moved hW.alike h6, h7 σ⟩, hS.F ht⟩) hS.2.2 hd q2
/-- the words of a call of a method of an object's own class -/
def z_cv (own : String) (idx : Nat) (y : MethodName) (cc : ByteArray) (nL : Nat) (ret : Option FieldType) (n : Nat) : Prop :=
  (∀ w ∈ wsV own idx y.cls y (.code y cc nL ret :: z_ws), w ∈ z_ws) ∧ (y.cls = y.cls ∧ y.cls ≠ "java/lang/invoke/MethodHandle" ∧ y.cls ≠ "java/lang/invoke/VarHandle" ∧ (parseMethodDescriptor y.desc).map (fun d => d.parameters.length) = some n)
theorem z_cv_of {own : String} {idx : Nat} {y : MethodName} {cc : ByteArray} {nL : Nat} {ret : Option FieldType} {n : Nat} (w1 : Cond.methodLink own idx y ∈ z_ws) (w2 : Cond.instanceMethod y ∈ z_ws) (w3 : Cond.selects y.cls y y ∈ z_ws) (w4 : Cond.initialized y.cls ∈ z_ws) (w5 : Cond.code y cc nL ret ∈ z_ws) (hd : y.cls ≠ "java/lang/invoke/MethodHandle" ∧ y.cls ≠ "java/lang/invoke/VarHandle" ∧ (parseMethodDescriptor y.desc).map (fun d => d.parameters.length) = some n) : z_cv own idx y cc nL ret n := by
  refine ⟨fun w hw => ?_, rfl, hd⟩
  rcases List.mem_append.mp hw with h | h
  · rcases List.mem_cons.mp h with rfl | h
    · exact w1
    rcases List.mem_cons.mp h with rfl | h
    · exact w2
    rcases List.mem_cons.mp h with rfl | h
    · exact w3
    rcases List.mem_cons.mp h with rfl | h
    · exact w4
    cases h
  · rcases List.mem_cons.mp h with rfl | h
    · exact w5
    · exact h
theorem z_blind {g : zG} {σ : zS} {sz : Nat} {av : List Value} : FrameBlind (va_Pc av (z_Pre g σ sz)) := fun a U f mk q => ⟨q.1, q.2.1, q.2.2.1, va_K.moved (u := U) (U := U.calling f mk a) (Vm.Alike.refl U.vm) q.2.2.2.1, q.2.2.2.2⟩
theorem z_free {g : zG} {A : Nat → Prop} {H0 H : Heap} {locs : List Loc} {σ : zS} (hD : va_D A (z_w g σ)) (hA : ∀ q, H0.size ≤ q → A q) (hS : va_S A H0 H locs) : ∀ q, va_A (z_w g σ) H.size q → A q := by
  intro q h
  rcases h with ⟨k, e, hk⟩ | h
  · exact hD.2 k _ hk
  · exact hA q (Nat.le_trans hS.1 h)
/-- the run of a call, whatever it answers -/
theorem z_run {p : Program} {l : Launch} {e : Env} {R : Room} {s : State} {m : MethodId} {args : Array Value} {below : List Frame} {meth : Method} {c : Code} {Q : State → Prop} {cells slots : Nat} {A : Nat → Prop} {H0 : Heap} {nL : Nat} {g : zG} (hx : z_ok (p, l, e, R, s, m, args, below, meth, c, Q, cells, slots, A, H0, nL, g) cc own sd) {y : MethodName} {cc' : ByteArray} {nL' n idx : Nat} {ret' : Option FieldType} {rm' : Room} {As : List Value} {k ci : Nat} {CN : String} {T : u_T} {N : Nat} {fs : List Value} {Qk : (Nat → Prop) → Array Value → State → Outcome → State → Prop}
    (hM : z_Met l y cc' nL' ret' rm' g (.ref (z_ad g k) :: As) σ Qk) (hk : k < z_N g) (hm : z_mk g k (σ k) = .inr (ci, fs)) (hc : vwCl[ci]? = some (CN, T, N)) (hCN : CN = y.cls) (hw : z_cv own idx y cc' nL' ret' n) (hR : rm'.frames + 1 ≤ R.frames ∧ 8 + (nL' + 11) + rm'.locals ≤ R.locals) (hrc : rm'.cells = 0 ∧ rm'.slots = 0) (hn : As.length = n)
    {H : Heap} {locs : List Loc} {ls : Array Slot} (hP : va_P g.2.2.2.2.2 vwCl (z_w g σ) H) (hl : ls.size = nL) {stk : List Value} (hst : stk = As.reverse ++ .ref (z_ad g k) :: st) (hsum : (st.map fun v => v.category).sum ≤ 8) (hd : decode cc pc = .ok (.invokevirtual idx, 3)) :
    va_Run p l e R s m args below meth c H locs cells slots 0 0 (F0 m pc ls stk) st (Qk (va_A (z_w g σ) H.size) (Value.ref (z_ad g k) :: As).toArray) (va_A (z_w g σ) H.size) := by
  have he := z_wd_get (mk := z_mk g) (ad := g.2.1) (σ := σ) hk
  rw [hm] at he
  obtain ⟨h1, h2, h3, h4, h5, h6, h7, h8, h9, h10, h11, h12⟩ := hx
  subst hCN
  exact va_runV (As := As) (rest := st) ⟨h1, h2, h3, h4, h5⟩ (hM H.size) (cwV n h5 (fun w h => ⟨hw.1 w h, good_of_word (List.mem_filter.mp (hw.1 w h)).2⟩) rfl hrc.1 hrc.2 ⟨rfl, hw.2.2⟩ hR) ⟨z_blind, va_recv h6 hP hc he, fun U hU hW => ⟨rfl, by rw [hU], by rw [hU]; exact hP, va_K.moved hW.alike h6, (h7 σ).weaken (fun _ _ _ _ => trivial)⟩⟩ rfl hn hl hst (lv_room hsum) hd ⟨h10, h11⟩
theorem z_calli (hx : z_ok C cc own sd) {y : MethodName} {cc' : ByteArray} {nL' n idx : Nat} {ret' : Option FieldType} {rm' : Room} {As : List Value} {k ci : Nat} {CN : String} {T : u_T} {N : Nat} {fs : List Value} {r0 : Int} {σ1 : zS}
    (hM : z_Met (z_l C) y cc' nL' ret' rm' (z_g C) (.ref (z_ad (z_g C) k) :: As) σ (z_QI (z_g C) r0 σ1)) (hk : k < z_N (z_g C)) (hm : z_mk (z_g C) k (σ k) = .inr (ci, fs)) (hc : vwCl[ci]? = some (CN, T, N)) (hCN : CN = y.cls) (hw : z_cv own idx y cc' nL' ret' n) (hR : rm'.frames + 1 ≤ (z_R C).frames ∧ 8 + (nL' + 11) + rm'.locals ≤ (z_R C).locals) (hrc : rm'.cells = 0 ∧ rm'.slots = 0) (hn : As.length = n)
    {stk : List Value} (hst : stk = As.reverse ++ .ref (z_ad (z_g C) k) :: st) (hsum : (st.map fun v => v.category).sum ≤ 8) (hd : decode cc pc = .ok (.invokevirtual idx, 3)) (kk : z_W C σ1 (pc + 3) lv (.int (zi r0) :: st)) : z_W C σ pc lv stk := by
  obtain ⟨p, l, e, R, s, m, args, below, meth, c, Q, cells, slots, A, H0, nL, g⟩ := C
  intro H locs ls hP hS hl
  have hF := z_free (g := g) (σ := σ) (hx.2.2.2.2.2.2.1 σ) hx.2.2.2.2.2.2.2.1 hS
  refine va_calli (z_run hx hM hk hm hc hCN hw hR hrc hn hP hl.1 hst hsum hd) hS (fun q _ h => hF q h) hF (fun r1 u t H1 locs1 ht hvm hw1 hB hz1 hk1 hS1 => ?_)
  obtain ⟨rfl, rfl⟩ := hw1
  obtain ⟨hP1, hK1, hD1⟩ := hB
  rw [ht] at hP1
  exact kk H1 locs1 ls hP1 hS1 hl
theorem z_callv (hx : z_ok C cc own sd) {y : MethodName} {cc' : ByteArray} {nL' n idx : Nat} {ret' : Option FieldType} {rm' : Room} {As : List Value} {k ci : Nat} {CN : String} {T : u_T} {N : Nat} {fs : List Value} {σ1 : zS}
    (hM : z_Met (z_l C) y cc' nL' ret' rm' (z_g C) (.ref (z_ad (z_g C) k) :: As) σ (z_QV (z_g C) σ1)) (hk : k < z_N (z_g C)) (hm : z_mk (z_g C) k (σ k) = .inr (ci, fs)) (hc : vwCl[ci]? = some (CN, T, N)) (hCN : CN = y.cls) (hw : z_cv own idx y cc' nL' ret' n) (hR : rm'.frames + 1 ≤ (z_R C).frames ∧ 8 + (nL' + 11) + rm'.locals ≤ (z_R C).locals) (hrc : rm'.cells = 0 ∧ rm'.slots = 0) (hn : As.length = n)
    {stk : List Value} (hst : stk = As.reverse ++ .ref (z_ad (z_g C) k) :: st) (hsum : (st.map fun v => v.category).sum ≤ 8) (hd : decode cc pc = .ok (.invokevirtual idx, 3)) (kk : z_W C σ1 (pc + 3) lv st) : z_W C σ pc lv stk := by
  obtain ⟨p, l, e, R, s, m, args, below, meth, c, Q, cells, slots, A, H0, nL, g⟩ := C
  intro H locs ls hP hS hl
  have hF := z_free (g := g) (σ := σ) (hx.2.2.2.2.2.2.1 σ) hx.2.2.2.2.2.2.2.1 hS
  refine va_callv (z_run hx hM hk hm hc hCN hw hR hrc hn hP hl.1 hst hsum hd) hS (fun q _ h => hF q h) hF (fun u t H1 locs1 ht hvm hw1 hB hz1 hk1 hS1 => ?_)
  obtain rfl := hw1
  obtain ⟨hP1, hK1, hD1⟩ := hB
  rw [ht] at hP1
  exact kk H1 locs1 ls hP1 hS1 hl
theorem z_calll (hx : z_ok C cc own sd) {y : MethodName} {cc' : ByteArray} {nL' n idx : Nat} {ret' : Option FieldType} {rm' : Room} {As : List Value} {k ci : Nat} {CN : String} {T : u_T} {N : Nat} {fs : List Value} {r0 : Int} {σ1 : zS}
    (hM : z_Met (z_l C) y cc' nL' ret' rm' (z_g C) (.ref (z_ad (z_g C) k) :: As) σ (z_QL (z_g C) r0 σ1)) (hk : k < z_N (z_g C)) (hm : z_mk (z_g C) k (σ k) = .inr (ci, fs)) (hc : vwCl[ci]? = some (CN, T, N)) (hCN : CN = y.cls) (hw : z_cv own idx y cc' nL' ret' n) (hR : rm'.frames + 1 ≤ (z_R C).frames ∧ 8 + (nL' + 11) + rm'.locals ≤ (z_R C).locals) (hrc : rm'.cells = 0 ∧ rm'.slots = 0) (hn : As.length = n)
    {stk : List Value} (hst : stk = As.reverse ++ .ref (z_ad (z_g C) k) :: st) (hsum : (st.map fun v => v.category).sum ≤ 8) (hd : decode cc pc = .ok (.invokevirtual idx, 3)) (kk : z_W C σ1 (pc + 3) lv (.long (zl r0) :: st)) : z_W C σ pc lv stk := by
  obtain ⟨p, l, e, R, s, m, args, below, meth, c, Q, cells, slots, A, H0, nL, g⟩ := C
  intro H locs ls hP hS hl
  have hF := z_free (g := g) (σ := σ) (hx.2.2.2.2.2.2.1 σ) hx.2.2.2.2.2.2.2.1 hS
  refine va_calll (z_run hx hM hk hm hc hCN hw hR hrc hn hP hl.1 hst hsum hd) hS (fun q _ h => hF q h) hF (fun r1 u t H1 locs1 ht hvm hw1 hB hz1 hk1 hS1 => ?_)
  obtain ⟨rfl, rfl⟩ := hw1
  obtain ⟨hP1, hK1, hD1⟩ := hB
  rw [ht] at hP1
  exact kk H1 locs1 ls hP1 hS1 hl
theorem z_callr (hx : z_ok C cc own sd) {y : MethodName} {cc' : ByteArray} {nL' n idx : Nat} {ret' : Option FieldType} {rm' : Room} {As : List Value} {k ci kr : Nat} {CN : String} {T : u_T} {N : Nat} {fs : List Value} {σ1 : zS}
    (hM : z_Met (z_l C) y cc' nL' ret' rm' (z_g C) (.ref (z_ad (z_g C) k) :: As) σ (z_QR (z_g C) kr σ1)) (hk : k < z_N (z_g C)) (hm : z_mk (z_g C) k (σ k) = .inr (ci, fs)) (hc : vwCl[ci]? = some (CN, T, N)) (hCN : CN = y.cls) (hw : z_cv own idx y cc' nL' ret' n) (hR : rm'.frames + 1 ≤ (z_R C).frames ∧ 8 + (nL' + 11) + rm'.locals ≤ (z_R C).locals) (hrc : rm'.cells = 0 ∧ rm'.slots = 0) (hn : As.length = n)
    {stk : List Value} (hst : stk = As.reverse ++ .ref (z_ad (z_g C) k) :: st) (hsum : (st.map fun v => v.category).sum ≤ 8) (hd : decode cc pc = .ok (.invokevirtual idx, 3)) (kk : z_W C σ1 (pc + 3) lv (.ref (z_ad (z_g C) kr) :: st)) : z_W C σ pc lv stk := by
  obtain ⟨p, l, e, R, s, m, args, below, meth, c, Q, cells, slots, A, H0, nL, g⟩ := C
  intro H locs ls hP hS hl
  have hF := z_free (g := g) (σ := σ) (hx.2.2.2.2.2.2.1 σ) hx.2.2.2.2.2.2.2.1 hS
  refine va_callr (z_run hx hM hk hm hc hCN hw hR hrc hn hP hl.1 hst hsum hd) hS (fun q _ h => hF q h) hF (fun u ra t H1 locs1 ht hvm hw1 hB hz1 hk1 hS1 => ?_)
  obtain rfl := hw1
  obtain ⟨rfl, hP1, hK1, hD1⟩ := hB
  rw [ht] at hP1
  exact kk H1 locs1 ls hP1 hS1 hl
end
