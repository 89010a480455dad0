/-! THE LAW: both worlds, and its rows -/
theorem z_Sr_go {n : String} {f : Int → Int} {A B : Nat → Prop} {s U : State} {H : Heap} {locs : List Loc} {gs : Nat} (h : z_Sr n f gs A s) (hS : va_S A s.heap H locs) (hB : ∀ q, B q → A q) (hvm : s.vm.Alike U.vm) (hU : U.heap = H) : z_Sr n f gs B U := by
  subst hU
  exact ⟨((h.1.kept hS.2.1).narrow hB).moved hvm, (h.2.1.kept (hS.2.1 gs h.2.2.1 h.2.2.2)).moved hvm, Nat.lt_of_lt_of_le h.2.2.1 hS.1, fun q => h.2.2.2 (hB gs q)⟩
abbrev LC : Type := Program × Launch × Env × State × MethodId × Nat × List Frame × Method × Code × Nat × (Nat → Int32) × zG × zG × Nat
def l_A (s : State) : Nat → Prop := fun q => s.heap.size ≤ q
def l_ok (K : LC) : Prop := match K with
  | (p, _, _, s, m, b, _, meth, c, L, xs, gC, gM, gs) => p.tables.exec = Jvm.exec ∧ c.code = cL_law ∧ meth.sig.returnType = ret ∧ c.maxLocals = 8 ∧ s.vm.findClass RL = some m.cls ∧ (∀ w ∈ z_ws, w.before #[Value.ref b] s = true) ∧ va_X b L xs s s.heap ∧ b < s.heap.size ∧ meth.locks = false ∧ L ≤ 2560 ∧ gC.1 = 0 ∧ gM.1 = 1 ∧ va_K gC.2.2.2.2.2 vwCl (z_tys gC) s ∧ va_K gM.2.2.2.2.2 vwCl (z_tys gM) s ∧ (∀ σ, va_D (l_A s) (z_w gC σ)) ∧ (∀ τ, va_D (l_A s) (z_w gM τ)) ∧ (∀ i j, i < 64 → j < 10 → gC.2.1 i ≠ gM.2.1 j) ∧ z_Sr "GREATEST_SETTINGS" z_most gs (l_A s) s
def l_W (K : LC) (d0 : Drawn) (σ τ : zS) (pc : Nat) (lv : List (Nat × Value)) (st : List Value) : Prop := match K with
  | (p, l, e, s, m, b, below, meth, c, _, _, gC, gM, _) => s.drawn.sameBut d0 lw_cs → ∀ (H : Heap) (locs : List Loc) (ls : Array Slot), va_P gC.2.2.2.2.2 vwCl (z_w gC σ) H → va_P gM.2.2.2.2.2 vwCl (z_w gM τ) H → va_S (l_A s) s.heap H locs → lv_has ls 8 lv → W p l e room_1 (s.setDrawn d0) m #[Value.ref b] below meth c H locs 600000 7302250 (lw_Z below #[Value.ref b] s) (F0 m pc ls st)
abbrev l_l (K : LC) : Launch := K.2.1
abbrev l_b (K : LC) : Nat := K.2.2.2.2.2.1
abbrev l_L (K : LC) : Nat := K.2.2.2.2.2.2.2.2.2.1
abbrev l_xs (K : LC) : Nat → Int32 := K.2.2.2.2.2.2.2.2.2.2.1
abbrev l_C (K : LC) : zG := K.2.2.2.2.2.2.2.2.2.2.2.1
abbrev l_M (K : LC) : zG := K.2.2.2.2.2.2.2.2.2.2.2.2.1
abbrev l_gs (K : LC) : Nat := K.2.2.2.2.2.2.2.2.2.2.2.2.2
theorem l_keep {D : va_G} {cl : List vw_C} {g1 g2 : zG} {σ τ : zS} {H H1 : Heap} (hP : va_P D cl (z_w g2 τ) H) (hdis : ∀ i j, i < z_N g1 → j < z_N g2 → g1.2.1 i ≠ g2.2.1 j) (hk : ∀ q : Nat, q < H.size → ¬ va_A (z_w g1 σ) H.size q → H1[q]? = H[q]?) : va_P D cl (z_w g2 τ) H1 := by
  refine hP.kept (fun k q hq => hk q.1 ((hP k q hq).lt) (fun h => ?_))
  have hlt := (hP k q hq).lt
  obtain ⟨a1, a2⟩ := z_wd_some hq
  rcases h with ⟨k', e', h'⟩ | h'
  · obtain ⟨b1, b2⟩ := z_wd_some h'
    refine hdis k' k b1 a1 ?_
    have c1 : q.1 = g2.2.1 k := by rw [a2]
    have c2 : q.1 = g1.2.1 k' := (Prod.mk.inj b2).1
    rw [← c1, ← c2]
  · omega
section
variable {K : LC} {d0 : Drawn} {σ τ : zS} {pc : Nat} {lv : List (Nat × Value)} {st : List Value}
theorem l_aload_n (hx : l_ok K) (q : Nat) {i : Fin 4} {x : Nat} (hd : decode cL_law pc = .ok (.aload_n i, 1)) (hk : lv[q]? = some ((i : Nat), .ref x)) (kk : l_W K d0 σ τ (pc + 1) lv (.ref x :: st)) : l_W K d0 σ τ pc lv st := by
  obtain ⟨p, l, e, s, m, b, below, meth, c, L, xs, gC, gM, gs⟩ := K
  intro hd0 H locs ls hP hQ hS hl
  exact lv_aload_n hx.1 hx.2.1 hd rfl (lv_at hl q hk) (kk hd0 H locs ls hP hQ hS hl)
theorem l_iload_n (hx : l_ok K) (q : Nat) {i : Fin 4} {x : Int32} (hd : decode cL_law pc = .ok (.iload_n i, 1)) (hk : lv[q]? = some ((i : Nat), .int x)) (kk : l_W K d0 σ τ (pc + 1) lv (.int x :: st)) : l_W K d0 σ τ pc lv st := by
  obtain ⟨p, l, e, s, m, b, below, meth, c, L, xs, gC, gM, gs⟩ := K
  intro hd0 H locs ls hP hQ hS hl
  exact lv_iload_n hx.1 hx.2.1 hd rfl (lv_at hl q hk) (kk hd0 H locs ls hP hQ hS hl)
theorem l_iconst (hx : l_ok K) {v : Int} (hd : decode cL_law pc = .ok (.iconst v, 1)) (kk : l_W K d0 σ τ (pc + 1) lv (.int (zi v) :: st)) : l_W K d0 σ τ pc lv st := by
  obtain ⟨p, l, e, s, m, b, below, meth, c, L, xs, gC, gM, gs⟩ := K
  intro hd0 H locs ls hP hQ hS hl
  exact lv_iconst hx.1 hx.2.1 hd rfl (kk hd0 H locs ls hP hQ hS hl)
theorem l_bipush (hx : l_ok K) {v : Int} (hd : decode cL_law pc = .ok (.bipush v, 2)) (hn : (Int8.ofInt v).toInt32 = zi v) (kk : l_W K d0 σ τ (pc + 2) lv (.int (zi v) :: st)) : l_W K d0 σ τ pc lv st := by
  obtain ⟨p, l, e, s, m, b, below, meth, c, L, xs, gC, gM, gs⟩ := K
  intro hd0 H locs ls hP hQ hS hl
  exact lv_bipush hx.1 hx.2.1 hd hn (kk hd0 H locs ls hP hQ hS hl)
theorem l_iadd (hx : l_ok K) {a b : Int} (hd : decode cL_law pc = .ok (.iadd, 1)) (kk : l_W K d0 σ τ (pc + 1) lv (.int (zi (a + b)) :: st)) : l_W K d0 σ τ pc lv (.int (zi b) :: .int (zi a) :: st) := by
  obtain ⟨p, l, e, s, m, b, below, meth, c, L, xs, gC, gM, gs⟩ := K
  intro hd0 H locs ls hP hQ hS hl
  refine lv_iadd hx.1 hx.2.1 hd ?_
  rw [zi_add]
  exact kk hd0 H locs ls hP hQ hS hl
theorem l_isub (hx : l_ok K) {a b : Int} (hd : decode cL_law pc = .ok (.isub, 1)) (kk : l_W K d0 σ τ (pc + 1) lv (.int (zi (a - b)) :: st)) : l_W K d0 σ τ pc lv (.int (zi b) :: .int (zi a) :: st) := by
  obtain ⟨p, l, e, s, m, b, below, meth, c, L, xs, gC, gM, gs⟩ := K
  intro hd0 H locs ls hP hQ hS hl
  refine lv_isub hx.1 hx.2.1 hd ?_
  rw [zi_sub]
  exact kk hd0 H locs ls hP hQ hS hl
theorem l_iand (hx : l_ok K) {x y : Int32} (hd : decode cL_law pc = .ok (.iand, 1)) (kk : l_W K d0 σ τ (pc + 1) lv (.int (x &&& y) :: st)) : l_W K d0 σ τ pc lv (.int y :: .int x :: st) := by
  obtain ⟨p, l, e, s, m, b, below, meth, c, L, xs, gC, gM, gs⟩ := K
  intro hd0 H locs ls hP hQ hS hl
  exact lv_iand hx.1 hx.2.1 hd (kk hd0 H locs ls hP hQ hS hl)
theorem l_sld (hx : l_ok K) {i : Int} (h0 : 0 ≤ i) (h1 : i < (l_L K : Int)) (hd : decode cL_law pc = .ok (.iaload, 1)) (kk : l_W K d0 σ τ (pc + 1) lv (.int (l_xs K i.toNat) :: st)) : l_W K d0 σ τ pc lv (.int (zi i) :: .ref (l_b K) :: st) := by
  obtain ⟨p, l, e, s, m, b, below, meth, c, L, xs, gC, gM, gs⟩ := K
  intro hd0 H locs ls hP hQ hS hl
  obtain ⟨x1, x2, x3, x4, x5, x6, x7, x8, x9, x10, x11⟩ := hx
  have h1 : i < (L : Int) := h1
  refine va_sld (s := s.setDrawn d0) x1 x2 x7 x8 (fun h => absurd x8 (Nat.not_lt.mpr h)) hS (zi_in h0 h1 (by omega)) hd ?_
  rw [zi_clamp h0 (by omega)]
  exact kk hd0 H locs ls hP hQ hS hl
theorem l_slen (hx : l_ok K) (hd : decode cL_law pc = .ok (.arraylength, 1)) (kk : l_W K d0 σ τ (pc + 1) lv (.int (zi (l_L K : Int)) :: st)) : l_W K d0 σ τ pc lv (.ref (l_b K) :: st) := by
  obtain ⟨p, l, e, s, m, b, below, meth, c, L, xs, gC, gM, gs⟩ := K
  intro hd0 H locs ls hP hQ hS hl
  obtain ⟨x1, x2, x3, x4, x5, x6, x7, x8, x9, x10, x11⟩ := hx
  refine va_slen (s := s.setDrawn d0) x1 x2 x7 x8 (fun h => absurd x8 (Nat.not_lt.mpr h)) hS hd ?_
  have : Int32.ofNat L = zi (L : Int) := rfl
  rw [this]
  exact kk hd0 H locs ls hP hQ hS hl
theorem l_gt (hx : l_ok K) {a b : Int} (ha : zr a) (hb : zr b) {off : Int} {tgt : Nat} (hd : decode cL_law pc = .ok (.if_icmp .gt off, 3)) (ht : (pc : Int) + off = (tgt : Int)) (kt : b < a → l_W K d0 σ τ tgt lv st) (kf : ¬ b < a → l_W K d0 σ τ (pc + 3) lv st) : l_W K d0 σ τ pc lv (.int (zi b) :: .int (zi a) :: st) := by
  obtain ⟨p, l, e, s, m, b', below, meth, c, L, xs, gC, gM, gs⟩ := K
  intro hd0 H locs ls hP hQ hS hl
  exact lv_icmp_gt hx.1 hx.2.1 hd ht (fun h => kt ((zi_lt hb ha).mp h) hd0 H locs ls hP hQ hS hl) (fun h => kf (fun q => h ((zi_lt hb ha).mpr q)) hd0 H locs ls hP hQ hS hl)
theorem l_eq (hx : l_ok K) {x : Int32} {off : Int} {tgt : Nat} (hd : decode cL_law pc = .ok (.if_icmp .eq off, 3)) (ht : (pc : Int) + off = (tgt : Int)) (kt : l_W K d0 σ τ tgt lv st) : l_W K d0 σ τ pc lv (.int x :: .int x :: st) := by
  obtain ⟨p, l, e, s, m, b', below, meth, c, L, xs, gC, gM, gs⟩ := K
  intro hd0 H locs ls hP hQ hS hl
  exact lv_icmp_eq hx.1 hx.2.1 hd ht (fun _ => kt hd0 H locs ls hP hQ hS hl) (fun h => absurd rfl h)
theorem l_if_eq (hx : l_ok K) {x : Int32} {off : Int} {tgt : Nat} (hd : decode cL_law pc = .ok (.ifCond .eq off, 3)) (ht : (pc : Int) + off = (tgt : Int)) (kt : x = 0 → l_W K d0 σ τ tgt lv st) (kf : ¬ x = 0 → l_W K d0 σ τ (pc + 3) lv st) : l_W K d0 σ τ pc lv (.int x :: st) := by
  obtain ⟨p, l, e, s, m, b', below, meth, c, L, xs, gC, gM, gs⟩ := K
  intro hd0 H locs ls hP hQ hS hl
  exact lv_if_eq hx.1 hx.2.1 hd ht (fun h => kt h hd0 H locs ls hP hQ hS hl) (fun h => kf h hd0 H locs ls hP hQ hS hl)
theorem l_if_ne (hx : l_ok K) {x : Int32} {off : Int} {tgt : Nat} (hd : decode cL_law pc = .ok (.ifCond .ne off, 3)) (ht : (pc : Int) + off = (tgt : Int)) (kt : ¬ x = 0 → l_W K d0 σ τ tgt lv st) (kf : x = 0 → l_W K d0 σ τ (pc + 3) lv st) : l_W K d0 σ τ pc lv (.int x :: st) := by
  obtain ⟨p, l, e, s, m, b', below, meth, c, L, xs, gC, gM, gs⟩ := K
  intro hd0 H locs ls hP hQ hS hl
  exact lv_if_ne hx.1 hx.2.1 hd ht (fun h => kt h hd0 H locs ls hP hQ hS hl) (fun h => kf h hd0 H locs ls hP hQ hS hl)
theorem l_goto (hx : l_ok K) {off : Int} {tgt : Nat} (hd : decode cL_law pc = .ok (.goto off, 3)) (ht : (pc : Int) + off = (tgt : Int)) (kk : l_W K d0 σ τ tgt lv st) : l_W K d0 σ τ pc lv st := by
  obtain ⟨p, l, e, s, m, b', below, meth, c, L, xs, gC, gM, gs⟩ := K
  intro hd0 H locs ls hP hQ hS hl
  exact lv_goto hx.1 hx.2.1 hd ht (kk hd0 H locs ls hP hQ hS hl)
theorem l_iinc (hx : l_ok K) (q : Nat) {k : Nat} {n x : Int} {lv' : List (Nat × Value)} (hd : decode cL_law pc = .ok (.iinc k n, 3)) (hk : lv[q]? = some (k, .int (zi x))) (hlt : k < 8) (hl' : (k, Value.int (zi (x + n))) :: lv.filter (fun q => !(q.1 == k) && !(q.1 + 1 == k && q.2.category == 2)) = lv') (kk : l_W K d0 σ τ (pc + 3) lv' st) : l_W K d0 σ τ pc lv st := by
  obtain ⟨p, l, e, s, m, b', below, meth, c, L, xs, gC, gM, gs⟩ := K
  intro hd0 H locs ls hP hQ hS hl
  exact lv_iinc hx.1 hx.2.1 hd hl hk (zi_add x n) hlt hl' (fun ls' hl => kk hd0 H locs ls' hP hQ hS hl)
theorem l_sub (ks : List Nat) {lv' : List (Nat × Value)} (hl' : lv_pick lv ks = lv') (kk : l_W K d0 σ τ pc lv' st) : l_W K d0 σ τ pc lv st := by
  obtain ⟨p, l, e, s, m, b', below, meth, c, L, xs, gC, gM, gs⟩ := K
  intro hd0 H locs ls hP hQ hS hl
  exact kk hd0 H locs ls hP hQ hS (lv_sub hl ks hl')
theorem l_tsOut (hx : l_ok K) {dflt lo hi : Int} {offs : Array Int} {len : Nat} {x : Int32} {tgt : Nat} (hd : decode cL_law pc = .ok (.tableswitch dflt lo hi offs, len)) (h : x.toInt < lo ∨ hi < x.toInt) (ht : (pc : Int) + dflt = (tgt : Int)) (kk : l_W K d0 σ τ tgt lv st) : l_W K d0 σ τ pc lv (.int x :: st) := by
  obtain ⟨p, l, e, s, m, b', below, meth, c, L, xs, gC, gM, gs⟩ := K
  intro hd0 H locs ls hP hQ hS hl
  exact lv_tableOut hx.1 hx.2.1 hd h ht (kk hd0 H locs ls hP hQ hS hl)
theorem l_tsIn (hx : l_ok K) {dflt lo hi : Int} {offs : Array Int} {len : Nat} {x : Int32} {off : Int} {tgt : Nat} (hd : decode cL_law pc = .ok (.tableswitch dflt lo hi offs, len)) (h1 : ¬ x.toInt < lo) (h2 : ¬ hi < x.toInt) (ho : offs[(x.toInt - lo).toNat]? = some off) (ht : (pc : Int) + off = (tgt : Int)) (kk : l_W K d0 σ τ tgt lv st) : l_W K d0 σ τ pc lv (.int x :: st) := by
  obtain ⟨p, l, e, s, m, b', below, meth, c, L, xs, gC, gM, gs⟩ := K
  intro hd0 H locs ls hP hQ hS hl
  exact lv_tableIn hx.1 hx.2.1 hd h1 h2 ho ht (kk hd0 H locs ls hP hQ hS hl)
theorem l_lcmp (hx : l_ok K) {x y : Int64} (hd : decode cL_law pc = .ok (.lcmp, 1)) (kk : l_W K d0 σ τ (pc + 1) lv (.int (lg_cmp x y) :: st)) : l_W K d0 σ τ pc lv (.long y :: .long x :: st) := by
  obtain ⟨p, l, e, s, m, b', below, meth, c, L, xs, gC, gM, gs⟩ := K
  intro hd0 H locs ls hP hQ hS hl
  exact W.lcmp hx.1 hx.2.1 hd (kk hd0 H locs ls hP hQ hS hl)
theorem l_f2d (hx : l_ok K) {x : UInt32} (hd : decode cL_law pc = .ok (.f2d, 1)) (kk : ∀ (r : UInt64) (d1 : Drawn), alike64 r (FP.f2d x) = true → l_W K d1 σ τ (pc + 1) lv (.double r :: st)) : l_W K d0 σ τ pc lv (.float x :: st) := by
  obtain ⟨p, l, e, s, m, b', below, meth, c, L, xs, gC, gM, gs⟩ := K
  intro hd0 H locs ls hP hQ hS hl
  exact lv_f2d_any hd0 lw_bits hx.1 hx.2.1 hd (fun r d1 hal hd1 => kk r d1 hal hd1 H locs ls hP hQ hS hl)
theorem l_dstore (hx : l_ok K) {i : Nat} {x : UInt64} {lv' : List (Nat × Value)} (hd : decode cL_law pc = .ok (.dstore i, 2)) (hn : i + 1 < 8) (hl' : (i, Value.double x) :: lv.filter (fun q => !(q.1 == i) && (!(q.1 == i + 1) && !(q.1 + 1 == i && q.2.category == 2))) = lv') (kk : l_W K d0 σ τ (pc + 2) lv' st) : l_W K d0 σ τ pc lv (.double x :: st) := by
  obtain ⟨p, l, e, s, m, b', below, meth, c, L, xs, gC, gM, gs⟩ := K
  intro hd0 H locs ls hP hQ hS hl
  exact lv_dstore hx.1 hx.2.1 hd hl hn hl' (fun ls' hl => kk hd0 H locs ls' hP hQ hS hl)
theorem l_dload (hx : l_ok K) (q : Nat) {i : Nat} {x : UInt64} (hd : decode cL_law pc = .ok (.dload i, 2)) (hk : lv[q]? = some (i, .double x)) (kk : l_W K d0 σ τ (pc + 2) lv (.double x :: st)) : l_W K d0 σ τ pc lv st := by
  obtain ⟨p, l, e, s, m, b', below, meth, c, L, xs, gC, gM, gs⟩ := K
  intro hd0 H locs ls hP hQ hS hl
  exact lv_dload hx.1 hx.2.1 hd (lv_at hl q hk) (kk hd0 H locs ls hP hQ hS hl)
theorem l_dcmp (hx : l_ok K) {x y : UInt64} {op : CmpOp} (hd : decode cL_law pc = .ok (.dcmp op, 1)) (kk : l_W K d0 σ τ (pc + 1) lv (.int (Op.cmpValue (FP.dcmp x y) op) :: st)) : l_W K d0 σ τ pc lv (.double y :: .double x :: st) := by
  obtain ⟨p, l, e, s, m, b', below, meth, c, L, xs, gC, gM, gs⟩ := K
  intro hd0 H locs ls hP hQ hS hl
  exact lv_dcmp hx.1 hx.2.1 hd (kk hd0 H locs ls hP hQ hS hl)
theorem l_ret (hx : l_ok K) (hd : decode cL_law pc = .ok (.ireturn, 1)) : l_W K d0 σ τ pc lv [.int (zi 1)] := by
  obtain ⟨p, l, e, s, m, b', below, meth, c, L, xs, gC, gM, gs⟩ := K
  intro hd0 H locs ls hP hQ hS hl
  obtain ⟨x1, x2, x3, x4, x5, x6, x7, x8, x9, x10, x11⟩ := hx
  refine va_forget (s := s.setDrawn d0) (fun q hq => hS.2.2 q hq) ?_
  exact lw_ret hd0 x1 x2 x3 x9 hd
-- calls
theorem l_cC (hx : l_ok K) (d0 : Drawn) (Q : State → Prop) : match K with | (p, l, e, s, m, b, below, meth, c, _, _, gC, _, _) => z_ok (p, l, e, room_1, s.setDrawn d0, m, #[Value.ref b], below, meth, c, Q, 600000, 7302250, l_A s, s.heap, 8, gC) cL_law RL 0 := by
  obtain ⟨p, l, e, s, m, b, below, meth, c, L, xs, gC, gM, gs⟩ := K
  obtain ⟨x1, x2, x3, x4, x5, x6, x7, x8, x9, x10, x11, x12, x13, x14, x15, x16, x17, x18⟩ := hx
  exact ⟨x1, x2, x4, x5, dr_words x6 d0, x13, x15, fun q h => h, x11, Nat.le_of_ble_eq_true rfl, Nat.le_of_ble_eq_true rfl, rfl⟩
theorem l_cM (hx : l_ok K) (d0 : Drawn) (Q : State → Prop) : match K with | (p, l, e, s, m, b, below, meth, c, _, _, _, gM, _) => z_ok (p, l, e, room_1, s.setDrawn d0, m, #[Value.ref b], below, meth, c, Q, 600000, 7302250, l_A s, s.heap, 8, gM) cL_law RL 1 := by
  obtain ⟨p, l, e, s, m, b, below, meth, c, L, xs, gC, gM, gs⟩ := K
  obtain ⟨x1, x2, x3, x4, x5, x6, x7, x8, x9, x10, x11, x12, x13, x14, x15, x16, x17, x18⟩ := hx
  exact ⟨x1, x2, x4, x5, dr_words x6 d0, x14, x16, fun q h => h, x12, Nat.le_of_ble_eq_true rfl, Nat.le_of_ble_eq_true rfl, rfl⟩
theorem l_iC (hx : l_ok K) {y : MethodName} {cc' : ByteArray} {nL' n idx : Nat} {ret' : Option FieldType} {rm' : Room} {As : List Value} {r0 : Int} {σ1 : zS} (hM : z_Met (l_l K) y cc' nL' ret' rm' (l_C K) (.ref (z_ad (l_C K) 62) :: As) σ (z_QI (l_C K) r0 σ1)) (hCN : RX5 = y.cls) (hw : z_cv RL idx y cc' nL' ret' n) (hR : rm'.frames + 1 ≤ 10 ∧ 8 + (nL' + 11) + rm'.locals ≤ 372) (hrc : rm'.cells = 0 ∧ rm'.slots = 0) (hn : As.length = n) {stk : List Value} (hst : stk = As.reverse ++ .ref (z_ad (l_C K) 62) :: st) (hsum : (st.map fun v => v.category).sum ≤ 8) (hd : decode cL_law pc = .ok (.invokevirtual idx, 3)) (kk : l_W K d0 σ1 τ (pc + 3) lv (.int (zi r0) :: st)) : l_W K d0 σ τ pc lv stk := by
  have hz := l_cC hx d0
  obtain ⟨p, l, e, s, m, b, below, meth, c, L, xs, gC, gM, gs⟩ := K
  intro hd0 H locs ls hP hQ hS hl
  have hz := hz (lw_Z below #[Value.ref b] s)
  obtain ⟨x1, x2, x3, x4, x5, x6, x7, x8, x9, x10, x11, x12, x13, x14, x15, x16, x17, x18⟩ := hx
  have hF := z_free (g := gC) (σ := σ) (H := H) (x15 σ) (fun q h => h) hS
  refine va_calli (s := s.setDrawn d0) (z_run hz hM (z_lt0 x11 (by decide)) (z_kb62 x11 _) rfl hCN hw hR hrc hn hP hl.1 hst hsum hd) hS (fun q _ h => hF q h) hF (fun r1 u t H1 locs1 ht hvm hw1 hB hz1 hk1 hS1 => ?_)
  obtain ⟨rfl, rfl⟩ := hw1
  obtain ⟨hP1, hK1, hD1⟩ := hB
  rw [ht] at hP1
  exact kk hd0 H1 locs1 ls hP1 (l_keep hQ (fun i j hi hj => x17 i j (by rw [z_N0 x11] at hi; exact hi) (by rw [z_N1 x12] at hj; exact hj)) hk1) hS1 hl
theorem l_iM (hx : l_ok K) {y : MethodName} {cc' : ByteArray} {nL' n idx : Nat} {ret' : Option FieldType} {rm' : Room} {As : List Value} {r0 : Int} {τ1 : zS} (hM : z_Met (l_l K) y cc' nL' ret' rm' (l_M K) (.ref (z_ad (l_M K) 0) :: As) τ (z_QI (l_M K) r0 τ1)) (hCN : RX6 = y.cls) (hw : z_cv RL idx y cc' nL' ret' n) (hR : rm'.frames + 1 ≤ 10 ∧ 8 + (nL' + 11) + rm'.locals ≤ 372) (hrc : rm'.cells = 0 ∧ rm'.slots = 0) (hn : As.length = n) {stk : List Value} (hst : stk = As.reverse ++ .ref (z_ad (l_M K) 0) :: st) (hsum : (st.map fun v => v.category).sum ≤ 8) (hd : decode cL_law pc = .ok (.invokevirtual idx, 3)) (kk : l_W K d0 σ τ1 (pc + 3) lv (.int (zi r0) :: st)) : l_W K d0 σ τ pc lv stk := by
  have hz := l_cM hx d0
  obtain ⟨p, l, e, s, m, b, below, meth, c, L, xs, gC, gM, gs⟩ := K
  intro hd0 H locs ls hP hQ hS hl
  have hz := hz (lw_Z below #[Value.ref b] s)
  obtain ⟨x1, x2, x3, x4, x5, x6, x7, x8, x9, x10, x11, x12, x13, x14, x15, x16, x17, x18⟩ := hx
  have hF := z_free (g := gM) (σ := τ) (H := H) (x16 τ) (fun q h => h) hS
  refine va_calli (s := s.setDrawn d0) (z_run hz hM (z_lt1 x12 (by decide)) (z_kc0 x12 _) rfl hCN hw hR hrc hn hQ hl.1 hst hsum hd) hS (fun q _ h => hF q h) hF (fun r1 u t H1 locs1 ht hvm hw1 hB hz1 hk1 hS1 => ?_)
  obtain ⟨rfl, rfl⟩ := hw1
  obtain ⟨hP1, hK1, hD1⟩ := hB
  rw [ht] at hP1
  exact kk hd0 H1 locs1 ls (l_keep hP (fun i j hi hj q => x17 j i (by rw [z_N0 x11] at hj; exact hj) (by rw [z_N1 x12] at hi; exact hi) q.symm) hk1) hP1 hS1 hl
theorem l_lC (hx : l_ok K) {y : MethodName} {cc' : ByteArray} {nL' n idx : Nat} {ret' : Option FieldType} {rm' : Room} {As : List Value} {r0 : Int} {σ1 : zS} (hM : z_Met (l_l K) y cc' nL' ret' rm' (l_C K) (.ref (z_ad (l_C K) 62) :: As) σ (z_QL (l_C K) r0 σ1)) (hCN : RX5 = y.cls) (hw : z_cv RL idx y cc' nL' ret' n) (hR : rm'.frames + 1 ≤ 10 ∧ 8 + (nL' + 11) + rm'.locals ≤ 372) (hrc : rm'.cells = 0 ∧ rm'.slots = 0) (hn : As.length = n) {stk : List Value} (hst : stk = As.reverse ++ .ref (z_ad (l_C K) 62) :: st) (hsum : (st.map fun v => v.category).sum ≤ 8) (hd : decode cL_law pc = .ok (.invokevirtual idx, 3)) (kk : l_W K d0 σ1 τ (pc + 3) lv (.long (zl r0) :: st)) : l_W K d0 σ τ pc lv stk := by
  have hz := l_cC hx d0
  obtain ⟨p, l, e, s, m, b, below, meth, c, L, xs, gC, gM, gs⟩ := K
  intro hd0 H locs ls hP hQ hS hl
  have hz := hz (lw_Z below #[Value.ref b] s)
  obtain ⟨x1, x2, x3, x4, x5, x6, x7, x8, x9, x10, x11, x12, x13, x14, x15, x16, x17, x18⟩ := hx
  have hF := z_free (g := gC) (σ := σ) (H := H) (x15 σ) (fun q h => h) hS
  refine va_calll (s := s.setDrawn d0) (z_run hz hM (z_lt0 x11 (by decide)) (z_kb62 x11 _) rfl hCN hw hR hrc hn hP hl.1 hst hsum hd) hS (fun q _ h => hF q h) hF (fun r1 u t H1 locs1 ht hvm hw1 hB hz1 hk1 hS1 => ?_)
  obtain ⟨rfl, rfl⟩ := hw1
  obtain ⟨hP1, hK1, hD1⟩ := hB
  rw [ht] at hP1
  exact kk hd0 H1 locs1 ls hP1 (l_keep hQ (fun i j hi hj => x17 i j (by rw [z_N0 x11] at hi; exact hi) (by rw [z_N1 x12] at hj; exact hj)) hk1) hS1 hl
theorem l_lM (hx : l_ok K) {y : MethodName} {cc' : ByteArray} {nL' n idx : Nat} {ret' : Option FieldType} {rm' : Room} {As : List Value} {r0 : Int} {τ1 : zS} (hM : z_Met (l_l K) y cc' nL' ret' rm' (l_M K) (.ref (z_ad (l_M K) 0) :: As) τ (z_QL (l_M K) r0 τ1)) (hCN : RX6 = y.cls) (hw : z_cv RL idx y cc' nL' ret' n) (hR : rm'.frames + 1 ≤ 10 ∧ 8 + (nL' + 11) + rm'.locals ≤ 372) (hrc : rm'.cells = 0 ∧ rm'.slots = 0) (hn : As.length = n) {stk : List Value} (hst : stk = As.reverse ++ .ref (z_ad (l_M K) 0) :: st) (hsum : (st.map fun v => v.category).sum ≤ 8) (hd : decode cL_law pc = .ok (.invokevirtual idx, 3)) (kk : l_W K d0 σ τ1 (pc + 3) lv (.long (zl r0) :: st)) : l_W K d0 σ τ pc lv stk := by
  have hz := l_cM hx d0
  obtain ⟨p, l, e, s, m, b, below, meth, c, L, xs, gC, gM, gs⟩ := K
  intro hd0 H locs ls hP hQ hS hl
  have hz := hz (lw_Z below #[Value.ref b] s)
  obtain ⟨x1, x2, x3, x4, x5, x6, x7, x8, x9, x10, x11, x12, x13, x14, x15, x16, x17, x18⟩ := hx
  have hF := z_free (g := gM) (σ := τ) (H := H) (x16 τ) (fun q h => h) hS
  refine va_calll (s := s.setDrawn d0) (z_run hz hM (z_lt1 x12 (by decide)) (z_kc0 x12 _) rfl hCN hw hR hrc hn hQ hl.1 hst hsum hd) hS (fun q _ h => hF q h) hF (fun r1 u t H1 locs1 ht hvm hw1 hB hz1 hk1 hS1 => ?_)
  obtain ⟨rfl, rfl⟩ := hw1
  obtain ⟨hP1, hK1, hD1⟩ := hB
  rw [ht] at hP1
  exact kk hd0 H1 locs1 ls (l_keep hP (fun i j hi hj q => x17 j i (by rw [z_N0 x11] at hj; exact hj) (by rw [z_N1 x12] at hi; exact hi) q.symm) hk1) hP1 hS1 hl
end
