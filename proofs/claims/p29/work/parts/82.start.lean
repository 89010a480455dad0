/-! THE LAW: its beginning: the object is made -/
def l_A (s : State) : Nat → Prop := fun q => s.heap.size ≤ q
def kl_ok (C : zC) (cc : ByteArray) (own : String) (gs : Nat) : Prop := match C with
  | (p, _, _, _, s, m, args, _, meth, c, _, _, _, A, H0, nL, g) => p.tables.exec = Jvm.exec ∧ c.code = cc ∧ c.maxLocals = nL ∧ s.vm.findClass own = some m.cls ∧ (∀ w ∈ z_ws, w.before args s = true) ∧ va_K g.2.2.2.2.2 vwCl (z_tys g) s ∧ (∀ q, H0.size ≤ q → A q) ∧ H0 = s.heap ∧ True ∧ k_Ne s ∧ k_St A s s.heap gs
section
variable {C : zC} {cc : ByteArray} {own : String} {gs : Nat} {ws : va_W} {n k : Nat} {pc : Nat} {lv : List (Nat × Value)} {st : List Value}
theorem kl_iconst (hx : kl_ok C cc own gs) {v : Int} (hd : decode cc pc = .ok (.iconst v, 1)) (kk : k_W C ws n k (pc + 1) lv (.int (zi v) :: st)) : k_W C ws n k pc lv st := by
  obtain ⟨p, l, e, R, s, m, args, below, meth, c, Q, cells, slots, A, H0, nL, g⟩ := C
  intro H locs ls hP hD hS hl
  exact lv_iconst hx.1 hx.2.1 hd rfl (kk H locs ls hP hD hS hl)
theorem kl_dup (hx : kl_ok C cc own gs) {va : Value} (hd : decode cc pc = .ok (.dup, 1)) (hc : va.category = 1) (kk : k_W C ws n k (pc + 1) lv (va :: va :: st)) : k_W C ws n k pc lv (va :: st) := by
  obtain ⟨p, l, e, R, s, m, args, below, meth, c, Q, cells, slots, A, H0, nL, g⟩ := C
  intro H locs ls hP hD hS hl
  exact lv_dup hx.1 hx.2.1 hd hc (kk H locs ls hP hD hS hl)
theorem kl_istore_n (hx : kl_ok C cc own gs) {nL : Nat} (hn : C.2.2.2.2.2.2.2.2.2.2.2.2.2.2.2.1 = nL) {i : Fin 4} {x : Int32} {lv' : List (Nat × Value)} (hd : decode cc pc = .ok (.istore_n i, 1)) (hlt : (i : Nat) < nL) (hl' : ((i : Nat), Value.int x) :: lv.filter (fun q => !(q.1 == (i : Nat)) && !(q.1 + 1 == (i : Nat) && q.2.category == 2)) = lv') (kk : k_W C ws n k (pc + 1) lv' st) : k_W C ws n k pc lv (.int x :: st) := by
  obtain ⟨p, l, e, R, s, m, args, below, meth, c, Q, cells, slots, A, H0, nL, g⟩ := C
  intro H locs ls hP hD hS hl
  cases hn
  exact lv_istore_n hx.1 hx.2.1 hd rfl hl hlt hl' (fun ls' hl => kk H locs ls' hP hD hS hl)
theorem kl_new (hx : kl_ok C cc own gs) {CN : String} {T : u_T} {N ci index : Nat} (hc : vwCl[ci]? = some (CN, T, N)) (hin : ∀ w ∈ u_ws CN T N, w ∈ z_ws) (ty0 : Nat → FieldType) (hty : ∀ k, k < N → parseFieldDescriptor (T k).2.2.1 = some (ty0 k)) (hcl : Cond.classLink own index CN ∈ z_ws) (hinst : Cond.instantiable CN N ∈ z_ws) (hini : Cond.initialized CN ∈ z_ws) (fs : List Value) (hfs : ∀ j, j < N → defaultValue (ty0 j) = vp_V fs j) (hR : n + 1 ≤ (z_R C).cells ∧ k + N ≤ (z_R C).slots) (hd : decode cc pc = .ok (.new index, 3)) (kk : ∀ q, k_W C (ws ++ [(q, .inr (ci, fs))]) (n + 1) (k + N) (pc + 3) lv (.ref q :: st)) : k_W C ws n k pc lv st := by
  obtain ⟨p, l, e, R, s, m, args, below, meth, c, Q, cells, slots, A, H0, nL, g⟩ := C
  intro H locs ls hP hD hS hl
  obtain ⟨h1, h2, h3, h4, h5, h6, h7, h8, h9, h10, h11⟩ := hx
  exact va_new h1 h2 h5 hin ty0 hty h4 (h5 _ hcl) (h5 _ hinst) (h5 _ hini) h6 hP hD hS h7 hc hfs hR.1 hR.2 hd (fun q H1 hP1 hD1 hS1 => kk q H1 locs ls hP1 hD1 hS1 hl)
theorem kl_call (hx : kl_ok C cc own gs) {y : MethodName} {cc' : ByteArray} {nL' idx : Nat} {rm' : Room} {q : Nat} {e0 : va_E} {wd : (Nat → Nat) → va_W} (hM : k_Met (z_l C) y cc' nL' rm' (z_g C) gs q e0 wd) (hw : (Cond.methodLink own idx y ∈ z_ws) ∨ (C.2.2.2.2.1).vm = (C.2.2.2.2.1).vm ∧ ∃ host, (k_Ne C.2.2.2.2.1 → va_Nw (.methodLinkNest own idx y host) C.2.2.2.2.1)) (hi : Cond.instanceMethod y ∈ z_ws) (hini : Cond.initialized y.cls ∈ z_ws) (hcode : Cond.code y cc' nL' none ∈ z_ws) (hnm : y.name = "<init>") (hdd : y.cls ≠ "java/lang/invoke/MethodHandle" ∧ y.cls ≠ "java/lang/invoke/VarHandle" ∧ (parseMethodDescriptor y.desc).map (fun d => d.parameters.length) = some 0) (hR : (rm'.frames + 1 ≤ (z_R C).frames ∧ 8 + (nL' + 11) + rm'.locals ≤ (z_R C).locals) ∧ n + rm'.cells ≤ (z_R C).cells ∧ k + rm'.slots ≤ (z_R C).slots) (ic : Nat) (isR : List Nat) {wr : va_W} (hic : ws[ic]? = some (q, e0)) (hisR : isR.map (fun i => ws[i]?) = wr.map some) (hnd : va_nd isR = true) (hdis : ∀ i ∈ isR, i ∉ [ic]) (hsum : (st.map fun v => v.category).sum ≤ 8) (hd : decode cc pc = .ok (.invokespecial idx, 3)) (kk : ∀ u, k_W C (wr ++ wd u) (n + rm'.cells) (k + rm'.slots) (pc + 3) lv st) : k_W C ws n k pc lv (.ref q :: st) := by
  obtain ⟨p, l, e, R, s, m, args, below, meth, c, Q, cells, slots, A, H0, nL, g⟩ := C
  intro H locs ls hP hD hS hl
  obtain ⟨h1, h2, h3, h4, h5, h6, h7, rfl, h9, h10, h11⟩ := hx
  have hC : [ic].map (fun i => ws[i]?) = ([(q, e0)] : va_W).map some := by show [ws[ic]?] = [some (q, e0)]; rw [hic]
  have hFc := va_free (wc := [(q, e0)]) hD hS h7 [ic] hC
  have hPc := hP.sub (ws' := [(q, e0)]) [ic] (by show List.filterMap (fun i => ws[i]?) [ic] = _; simp [hic])
  have hDc := hD.sub (ws' := [(q, e0)]) [ic] rfl hC
  have hG : GoodIn z_ws (.code y cc' nL' none :: z_ws) := fun w h => by
    rcases List.mem_cons.mp h with rfl | h
    · exact ⟨hcode, good_of_word (List.mem_filter.mp hcode).2⟩
    · exact ⟨h, good_of_word (List.mem_filter.mp h).2⟩
  have hpre : PreS s H (va_Pc [.ref q] (fun U => U.heap.size = H.size ∧ va_P g.2.2.2.2.2 vwCl [(q, e0)] U.heap ∧ va_K g.2.2.2.2.2 vwCl (z_tys g) U ∧ va_D (fun _ => True) [(q, e0)] ∧ k_Ne U ∧ k_St (va_A [(q, e0)] H.size) U U.heap gs)) [.ref q] := ⟨fun a U f mk z => ⟨z.1, z.2.1, z.2.2.1, va_K.moved (u := U) (U := U.calling f mk a) (Vm.Alike.refl U.vm) z.2.2.2.1, z.2.2.2.2.1, z.2.2.2.2.2.1.same (U := U.calling f mk a) rfl, z.2.2.2.2.2.2.1.moved (u := U) (U := U.calling f mk a) (Vm.Alike.refl U.vm), z.2.2.2.2.2.2.2.1.moved (u := U) (U := U.calling f mk a) (Vm.Alike.refl U.vm), z.2.2.2.2.2.2.2.2⟩, fun U hU hW => ⟨rfl, by rw [hU], by rw [hU]; exact hPc, va_K.moved hW.alike h6, hDc.weaken (fun _ _ _ _ => trivial), h10.warm hW, by rw [hU]; exact h11.go hS hFc hW.alike⟩⟩
  have hrun : va_Run p l e R s m args below meth c H locs n k rm'.cells rm'.slots (F0 m pc ls (.ref q :: st)) st (va_Qv (fun (_ : Nat → Nat) => True) (fun u t => va_P g.2.2.2.2.2 vwCl (wd u) t.heap ∧ va_K g.2.2.2.2.2 vwCl (z_tys g) t ∧ va_D (va_A [(q, e0)] H.size) (wd u)) (va_A [(q, e0)] H.size) (Value.ref q :: []).toArray) (va_A [(q, e0)] H.size) := by
    rcases hw with hw | ⟨-, host, hw⟩
    · exact va_runI (As := []) (rest := st) ⟨h1, h2, h3, h4, h5⟩ (hM H.size) (cwI 0 h5 hG rfl rfl rfl (h5 _ hini) (h5 _ hw) (h5 _ hi) hnm hdd hR.1) hpre rfl rfl hl.1 rfl (lv_room hsum) hd hR.2
    · exact va_runIN (As := []) (rest := st) (host := host) ⟨h1, h2, h3, h4, h5⟩ (hM H.size) ⟨va_cnB 0 h5 hG rfl rfl rfl (hw h10) (h5 _ hini) hdd hR.1, hnm, h5 _ hi⟩ hpre rfl rfl hl.1 rfl (lv_room hsum) hd hR.2
  refine va_callv hrun hS (fun q _ h => hFc q h) hFc (fun u t H1 locs1 ht hvm hw1 hB hz1 hk1 hS1 => ?_)
  obtain ⟨hP1, hK1, hD1⟩ := hB
  rw [ht] at hP1
  obtain ⟨hP2, hD2⟩ := va_join (wr := wr) (w1 := wd u) hP hD [ic] isR hC hisR hnd hdis hk1 hFc hP1 hD1
  exact kk u H1 locs1 ls hP2 hD2 hS1 hl
theorem kl_astore_n (hx : kl_ok C cc own gs) {nL : Nat} (hn : C.2.2.2.2.2.2.2.2.2.2.2.2.2.2.2.1 = nL) {i : Fin 4} {x : Nat} {lv' : List (Nat × Value)} (hd : decode cc pc = .ok (.astore_n i, 1)) (hlt : (i : Nat) < nL) (hl' : ((i : Nat), Value.ref x) :: lv.filter (fun q => !(q.1 == (i : Nat)) && !(q.1 + 1 == (i : Nat) && q.2.category == 2)) = lv') (kk : k_W C ws n k (pc + 1) lv' st) : k_W C ws n k pc lv (.ref x :: st) := by
  obtain ⟨p, l, e, R, s, m, args, below, meth, c, Q, cells, slots, A, H0, nL, g⟩ := C
  intro H locs ls hP hD hS hl
  cases hn
  exact lv_astore_n hx.1 hx.2.1 hd rfl hl hlt hl' (fun ls' hl => kk H locs ls' hP hD hS hl)
end
/-- a row of seven numbers, out of what the Statement says of a term -/
theorem l_Xof {args : Array Value} {s : State} {tm : Term} {f : Nat → Int32} (harr : (Cond.arrayOf tm .int).before args s = true) (hlen : (Cond.eq (.length tm) (.int 7)).before args s = true) (hel : ∀ j : Nat, j < 7 → (Cond.eq (.elem tm (.int (Int32.ofNat j))) (.int (f j))).before args s = true) : ∃ t : Nat, tm.eval args s none [] s = some (.ref t) ∧ va_X t 7 f s s.heap ∧ t < s.heap.size := by
  obtain ⟨t, ht, hT⟩ := va_Tof (N := 7) (f := fun j => .int (f j)) (A := fun q => s.heap.size ≤ q) (by decide) harr (va_eqt hlen) (fun j hj => va_eqt (hel j hj)) (fun a ha h => absurd ha (Nat.not_lt.mpr h))
  obtain ⟨cell, h1, h2, h3, h4, h5, h6, h7⟩ := hT
  have hv := va_eqt hlen
  obtain ⟨t2, cell2, ht2, hat, h8⟩ := Term.length_spec hv
  cases ht.symm.trans ht2
  have hc2 := (State.arrayAt?_spec hat).1
  cases h1.symm.trans hc2
  refine ⟨t, ht, ⟨cell, h1, h2, h3, ?_, h6⟩, (Array.getElem?_eq_some_iff.mp h1).1⟩
  have hlt : cell.slots.size < 2147483648 := by
    have hv' := hv
    simp only [Term.eval, ht, hat, Option.bind_eq_bind, Option.bind_some] at hv'
    by_cases hlt : cell.slots.size < 2147483648
    · exact hlt
    · simp [hlt] at hv'
  have h9 : Int32.ofNat cell.slots.size = Int32.ofNat 7 := by
    have hv' := hv
    simp only [Term.eval, ht, hat, Option.bind_eq_bind, Option.bind_some] at hv'
    simp [hlt] at hv'
    exact hv'
  have h10 := congrArg Int32.toInt h9
  rw [Int32.toInt_ofNat_small hlt, Int32.toInt_ofNat_small (by decide)] at h10
  omega
