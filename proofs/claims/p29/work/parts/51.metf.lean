/-! CONTRACTS OF set AND OF THE METHODS THAT ANSWER FLOATS -/
def z_MetS (l : Launch) (y : MethodName) (cc : ByteArray) (nL : Nat) (ret : Option FieldType) (rm : Room) (g : zG) (av : List Value) (σ : zS) (gs : Nat) (Qk : (Nat → Prop) → Array Value → State → Outcome → State → Prop) : Prop :=
  ∀ sz : Nat, Met l y (.code y cc nL ret :: z_ws) rm (va_Pc av (fun U => z_Pre g σ sz U ∧ z_Sr "GREATEST_SETTINGS" z_most gs (va_A (z_w g σ) sz) U)) (Qk (va_A (z_w g σ) sz)) 0 0 (va_A (z_w g σ) sz)
theorem met_X5_set (l : Launch) (g : zG) (hg : g.1 = 0) {σ : zS} {x1 x2 : Int} {gs : Nat} {rr : Int × zS} (h : f_X5_set σ x1 x2 = some rr) : z_MetS l yX5_set cX5_set 4 (some .int) rm_X5_set g [.ref (z_ad g 62), .int (zi x1), .int (zi x2)] σ gs (z_QI g rr.1 rr.2) := by
  intro sz
  refine Met.ofW (cc := cX5_set) (maxL := 4) (ret := some .int) (by decide) rfl ?_
  intro p e s m args below meth c s₁ B hml hv
  obtain ⟨rfl, ⟨hsz, hP, hK, hD0⟩, hSr⟩ := hv
  have hx := B.exec
  have hb := B.bytes
  have hr := B.returns
  have hts := atoms_spec (ws := .code yX5_set cX5_set 4 (some .int) :: z_ws) B.pre
  have hown : s.vm.findClass RX5 = some m.cls := findClass_of_methodNamed B.named
  have hlocks := B.notSynchronized
  subst hsz
  have hD := hD0.self (sz := s.heap.size)
  have hl := lv_entry [.ref (z_ad g 62), .int (zi x1), .int (zi x2)] (n := 4) (Nat.le_of_ble_eq_true rfl)
  rw [lg_entry_eq]
  have hl : lv_has _ 4 [(0, .ref (z_ad g 62)), (1, .int (zi x1)), (2, .int (zi x2))] := hl
  exact w_X5_set (C := (p, l, e, rm_X5_set, s, m, ([.ref (z_ad g 62), .int (zi x1), .int (zi x2)] : List Value).toArray, below, meth, c, MQ below (z_QI g rr.1 rr.2 (va_A (z_w g σ) s.heap.size)) ([.ref (z_ad g 62), .int (zi x1), .int (zi x2)] : List Value).toArray s 0 0 (va_A (z_w g σ) s.heap.size), 0, 0, va_A (z_w g σ) s.heap.size, s.heap, 4, g)) ⟨hx, hb, hml, hown, fun w hw => hts w (List.mem_cons_of_mem _ hw), hK, fun τ => z_wd_D hD, fun q h => Or.inr h, hg, Nat.zero_le _, Nat.zero_le _, rfl⟩ rfl rfl hSr ⟨hr, hlocks, rfl⟩ σ x1 x2 h s.heap [] _ hP va_S.rf hl
/-- what a float that stands for a share is: a by b, or 0 where b is 0; any NaN where that were one -/
def z_flt (ab : Int × Int) (r : UInt32) : Prop := alike32 r (if ab.2 = 0 then FP.fconst0 else FP.fdiv (z_f ab.1) (z_f ab.2)) = true
def z_QF (g : zG) (ab : Int × Int) (σ' : zS) (A : Nat → Prop) : Array Value → State → Outcome → State → Prop := va_Qf (fun (x : UInt32) (u : zS) => z_flt ab x ∧ u = σ') (z_B g A) A
def z_MetF (l : Launch) (y : MethodName) (cc : ByteArray) (nL : Nat) (rm : Room) (g : zG) (av : List Value) (σ : zS) (ab : Int × Int) (σ' : zS) : Prop :=
  ∀ sz : Nat, MetD lw_cs l y (.code y cc nL (some .float) :: z_ws) rm (va_Pc av (z_Pre g σ sz)) (z_QF g ab σ' (va_A (z_w g σ) sz)) 0 0 (va_A (z_w g σ) sz)
theorem z_enterF {l : Launch} {y : MethodName} {cc : ByteArray} {nL : Nat} {rm : Room} {g : zG} {av : List Value} {σ : zS} {ab : Int × Int} {σ' : zS} {own : String} {sd : Nat} {lv0 : List (Nat × Value)} {pz pd : Nat} (hy : plainName y.cls = true) (hown : y.cls = own) (hlen : (lg_sl av).length ≤ nL) (hg : g.1 = sd) (hlv : lv_args 0 av = lv0)
    (dz : decode cc pz = .ok (.fconst 0, 1)) (dr : decode cc (pz + 1) = .ok (.freturn, 1) ∨ ∃ (off : Int) (tgt : Nat), decode cc (pz + 1) = .ok (.goto off, 3) ∧ ((pz + 1 : Nat) : Int) + off = (tgt : Int) ∧ decode cc tgt = .ok (.freturn, 1)) (dd : decode cc pd = .ok (.fdiv, 1)) (de : decode cc (pd + 1) = .ok (.freturn, 1))
    (body : ∀ C : zC, z_ok C cc own sd → z_l C = l → z_g C = g → z_R C = rm → z_nL C = nL → ((ab = (0, 0) → ∀ lv, z_W C σ' pz lv []) ∧ (ab.2 ≠ 0 → ∀ lv, z_W C σ' pd lv [.float (z_f ab.2), .float (z_f ab.1)])) → z_W C σ 0 lv0 []) : z_MetF l y cc nL rm g av σ ab σ' := by
  intro sz
  refine MetD.ofW (cc := cc) (maxL := nL) (ret := some .float) hy rfl ?_
  intro p e s m args below meth c s₁ B hml hv hd0
  obtain ⟨rfl, hsz, hP, hK, hD0⟩ := hv
  have hx := B.exec
  have hb := B.bytes
  have hr := B.returns
  have hts := atoms_spec (ws := .code y cc nL (some .float) :: z_ws) B.pre
  have hown2 : s.vm.findClass y.cls = some m.cls := findClass_of_methodNamed B.named
  have hlocks := B.notSynchronized
  subst hsz
  have hD := hD0.self (sz := s.heap.size)
  have hl := lv_entry av (n := nL) hlen
  rw [lg_entry_eq]
  rw [hlv] at hl
  have hend : ∀ (r : UInt32) (d1 : Drawn) (H : Heap) (locs : List Loc) (ls : Array Slot) (pc : Nat), z_flt ab r → s.drawn.sameBut d1 lw_cs → va_P g.2.2.2.2.2 vwCl (z_w g σ') H → va_S (va_A (z_w g σ) s.heap.size) s.heap H locs → decode cc pc = .ok (.freturn, 1) → W p l e rm (s.setDrawn d1) m av.toArray below meth c H locs 0 0 (MQD lw_cs below (z_QF g ab σ' (va_A (z_w g σ) s.heap.size)) av.toArray s 0 0 (va_A (z_w g σ) s.heap.size)) (F0 m pc ls [.float r]) := by
    intro r d1 H locs ls pc hfl hd1 hP1 hS1 hdc
    refine W.endD hd1 ?_
    exact W.fret hx hb hr (fun t ht hW => ⟨⟨r, σ', rfl, ⟨hfl, rfl⟩, by rw [ht]; exact hP1, va_K.moved (u := s) hW.alike hK, z_wd_D hD⟩, hS1.F ht⟩) hS1.2.2 hdc
  refine body (p, l, e, rm, s.setDrawn s.drawn, m, av.toArray, below, meth, c, MQD lw_cs below (z_QF g ab σ' (va_A (z_w g σ) s.heap.size)) av.toArray s 0 0 (va_A (z_w g σ) s.heap.size), 0, 0, va_A (z_w g σ) s.heap.size, s.heap, nL, g) ⟨hx, hb, hml, hown ▸ hown2, fun w hw => dr_words hts _ w (List.mem_cons_of_mem _ hw), hK, fun τ => z_wd_D hD, fun q h => Or.inr h, hg, Nat.zero_le _, Nat.zero_le _, rfl⟩ rfl rfl rfl rfl ⟨fun h0 lv => ?_, fun hz lv => ?_⟩ s.heap [] _ hP va_S.rf hl
  · intro H locs ls hP1 hS1 hl1
    have hfl : z_flt ab FP.fconst0 := by
      unfold z_flt
      rw [h0]
      show alike32 FP.fconst0 (if (0 : Int) = 0 then FP.fconst0 else _) = true
      rw [if_pos rfl]
      exact alike32_refl _
    refine lv_fconst0 hx hb dz ?_
    rcases dr with dr | ⟨off, tgt, dr1, dr2, dr3⟩
    · exact hend _ _ _ _ _ _ hfl hd0 hP1 hS1 dr
    · refine lv_goto hx hb dr1 dr2 ?_
      exact hend _ _ _ _ _ _ hfl hd0 hP1 hS1 dr3
  · intro H locs ls hP1 hS1 hl1
    refine lv_fdiv_any hd0 lw_bits hx hb dd (fun r d1 hal hd1 => ?_)
    refine hend _ _ _ _ _ _ ?_ hd1 hP1 hS1 de
    unfold z_flt
    rw [if_neg hz]
    exact hal
theorem met_X5_loudness (l : Launch) (g : zG) (hg : g.1 = 0) {σ : zS} {rr : (Int × Int) × zS} (h : f_X5_loudness σ = some rr) : z_MetF l yX5_loudness cX5_loudness 2 rm_X5_loudness g [.ref (z_ad g 62)] σ rr.1 rr.2 := by
  refine z_enterF (own := RX5) (sd := 0) (lv0 := [(0, .ref (z_ad g 62))]) (by decide) rfl (Nat.le_of_ble_eq_true rfl) hg rfl dX5_loudness_12 (Or.inl dX5_loudness_13) dX5_loudness_24 dX5_loudness_25 (fun C hx hl hgC hR hn hq => ?_)
  subst hgC
  exact w_X5_loudness hx hn hR hq σ h
theorem met_X5_share (l : Launch) (g : zG) (hg : g.1 = 0) {σ : zS} {rr : (Int × Int) × zS} (h : f_X5_share σ = some rr) : z_MetF l yX5_share cX5_share 2 rm_X5_share g [.ref (z_ad g 62)] σ rr.1 rr.2 := by
  refine z_enterF (own := RX5) (sd := 0) (lv0 := [(0, .ref (z_ad g 62))]) (by decide) rfl (Nat.le_of_ble_eq_true rfl) hg rfl dX5_share_10 (Or.inl dX5_share_11) dX5_share_38 dX5_share_39 (fun C hx hl hgC hR hn hq => ?_)
  subst hgC
  exact w_X5_share hx hn hR hq σ h
