/-! THE LAW: calls of set, and of what answers floats -/
section
variable {K : LC} {d0 : Drawn} {σ τ : zS} {pc : Nat} {lv : List (Nat × Value)} {st : List Value}
theorem l_sC (hx : l_ok K) {y : MethodName} {cc' : ByteArray} {nL' n idx : Nat} {ret' : Option FieldType} {rm' : Room} {As : List Value} {r0 : Int} {σ1 : zS} (hM : z_MetS (l_l K) y cc' nL' ret' rm' (l_C K) (.ref (z_ad (l_C K) 62) :: As) σ (l_gs K) (z_QI (l_C K) r0 σ1)) (hCN : RX5 = y.cls) (hw : z_cv RL idx y cc' nL' ret' n) (hR : rm'.frames + 1 ≤ 10 ∧ 8 + (nL' + 11) + rm'.locals ≤ 372) (hrc : rm'.cells = 0 ∧ rm'.slots = 0) (hn : As.length = n) {stk : List Value} (hst : stk = As.reverse ++ .ref (z_ad (l_C K) 62) :: st) (hsum : (st.map fun v => v.category).sum ≤ 8) (hd : decode cL_law pc = .ok (.invokevirtual idx, 3)) (kk : l_W K d0 σ1 τ (pc + 3) lv (.int (zi r0) :: st)) : l_W K d0 σ τ pc lv stk := by
  have hz := l_cC hx d0
  obtain ⟨p, l, e, s, m, b, below, meth, c, L, xs, gC, gM, gs⟩ := K
  intro hd0 H locs ls hP hQ hS hl
  have hz := hz (lw_Z below #[Value.ref b] s)
  obtain ⟨x1, x2, x3, x4, x5, x6, x7, x8, x9, x10, x11, x12, x13, x14, x15, x16, x17, x18⟩ := hx
  have hF := z_free (g := gC) (σ := σ) (H := H) (x15 σ) (fun q h => h) hS
  have he := z_wd_get (mk := z_mk gC) (ad := gC.2.1) (σ := σ) (z_lt0 x11 (show 62 < 64 by decide))
  rw [z_kb62 x11] at he
  obtain ⟨h1, h2, h3, h4, h5, h6, h7, h8, h9, h10, h11, h12⟩ := hz
  have hrun : va_Run p l e room_1 (s.setDrawn d0) m #[Value.ref b] below meth c H locs 600000 7302250 0 0 (F0 m pc ls stk) st (z_QI gC r0 σ1 (va_A (z_w gC σ) H.size) (Value.ref (z_ad gC 62) :: As).toArray) (va_A (z_w gC σ) H.size) := by
    have hc : vwCl[5]? = some (y.cls, TX5, 7) := by rw [← hCN]; rfl
    exact va_runV (As := As) (rest := st) ⟨h1, h2, h3, h4, h5⟩ (hM H.size) (cwV n h5 (fun w h => ⟨hw.1 w h, good_of_word (List.mem_filter.mp (hw.1 w h)).2⟩) rfl hrc.1 hrc.2 ⟨rfl, hw.2.2⟩ hR) ⟨fun a U f mk q => ⟨q.1, ⟨q.2.1.1, q.2.1.2.1, va_K.moved (u := U) (U := U.calling f mk a) (Vm.Alike.refl U.vm) q.2.1.2.2.1, q.2.1.2.2.2⟩, q.2.2.1.moved (u := U) (U := U.calling f mk a) (Vm.Alike.refl U.vm), q.2.2.2.1.moved (u := U) (U := U.calling f mk a) (Vm.Alike.refl U.vm), q.2.2.2.2⟩, va_recv h6 hP (q := (y.cls, TX5, 7)) hc he, fun U hU hW => ⟨rfl, ⟨by rw [hU], by rw [hU]; exact hP, va_K.moved hW.alike h6, (h7 σ).weaken (fun _ _ _ _ => trivial)⟩, z_Sr_go (s := s.setDrawn d0) x18 hS hF hW.alike hU⟩⟩ rfl hn hl.1 hst (lv_room hsum) hd ⟨h10, h11⟩
  refine va_calli (s := s.setDrawn d0) hrun hS (fun q _ h => hF q h) hF (fun r1 u t H1 locs1 ht hvm hw1 hB hz1 hk1 hS1 => ?_)
  obtain ⟨rfl, rfl⟩ := hw1
  obtain ⟨hP1, hK1, hD1⟩ := hB
  rw [ht] at hP1
  exact kk hd0 H1 locs1 ls hP1 (l_keep hQ (fun i j hi hj => x17 i j (by rw [z_N0 x11] at hi; exact hi) (by rw [z_N1 x12] at hj; exact hj)) hk1) hS1 hl
theorem l_fC (hx : l_ok K) {y : MethodName} {cc' : ByteArray} {nL' idx : Nat} {rm' : Room} {ab : Int × Int} {σ1 : zS} (hM : z_MetF (l_l K) y cc' nL' rm' (l_C K) [.ref (z_ad (l_C K) 62)] σ ab σ1) (hCN : RX5 = y.cls) (hw : z_cv RL idx y cc' nL' (some .float) 0) (hR : rm'.frames + 1 ≤ 10 ∧ 8 + (nL' + 11) + rm'.locals ≤ 372) (hrc : rm'.cells = 0 ∧ rm'.slots = 0) (hsum : (st.map fun v => v.category).sum ≤ 8) (hd : decode cL_law pc = .ok (.invokevirtual idx, 3)) (kk : ∀ (r : UInt32) (d1 : Drawn), z_flt ab r → l_W K d1 σ1 τ (pc + 3) lv (.float r :: st)) : l_W K d0 σ τ pc lv (.ref (z_ad (l_C K) 62) :: st) := by
  have hz := l_cC hx d0
  obtain ⟨p, l, e, s, m, b, below, meth, c, L, xs, gC, gM, gs⟩ := K
  intro hd0 H locs ls hP hQ hS hl
  have hz := hz (lw_Z below #[Value.ref b] s)
  obtain ⟨x1, x2, x3, x4, x5, x6, x7, x8, x9, x10, x11, x12, x13, x14, x15, x16, x17, x18⟩ := hx
  have hF := z_free (g := gC) (σ := σ) (H := H) (x15 σ) (fun q h => h) hS
  have he := z_wd_get (mk := z_mk gC) (ad := gC.2.1) (σ := σ) (z_lt0 x11 (show 62 < 64 by decide))
  rw [z_kb62 x11] at he
  obtain ⟨h1, h2, h3, h4, h5, h6, h7, h8, h9, h10, h11, h12⟩ := hz
  have hrun : va_RunD lw_cs p l e room_1 (s.setDrawn d0) m #[Value.ref b] below meth c H locs 600000 7302250 0 0 (F0 m pc ls (.ref (z_ad gC 62) :: st)) st (z_QF gC ab σ1 (va_A (z_w gC σ) H.size) (Value.ref (z_ad gC 62) :: []).toArray) (va_A (z_w gC σ) H.size) := by
    have hc : vwCl[5]? = some (y.cls, TX5, 7) := by rw [← hCN]; rfl
    exact va_runV_D (As := []) (rest := st) ⟨h1, h2, h3, h4, h5⟩ (hM H.size) (cwV 0 h5 (fun w h => ⟨hw.1 w h, good_of_word (List.mem_filter.mp (hw.1 w h)).2⟩) rfl hrc.1 hrc.2 ⟨rfl, hw.2.2⟩ hR) ⟨z_blind, va_recv h6 hP (q := (y.cls, TX5, 7)) hc he, fun U hU hW => ⟨rfl, by rw [hU], by rw [hU]; exact hP, va_K.moved hW.alike h6, (h7 σ).weaken (fun _ _ _ _ => trivial)⟩⟩ rfl rfl hl.1 rfl (lv_room hsum) hd ⟨h10, h11⟩
  refine va_callfD hd0 hrun hS (fun q _ h => hF q h) hF (fun r1 u t H1 locs1 ht hvm hw1 hB hz1 hk1 hS1 d1 hd1 => ?_)
  obtain ⟨hfl, rfl⟩ := hw1
  obtain ⟨hP1, hK1, hD1⟩ := hB
  rw [ht] at hP1
  exact kk r1 d1 hfl hd1 H1 locs1 ls hP1 (l_keep hQ (fun i j hi hj => x17 i j (by rw [z_N0 x11] at hi; exact hi) (by rw [z_N1 x12] at hj; exact hj)) hk1) hS1 hl
theorem l_fM (hx : l_ok K) {y : MethodName} {cc' : ByteArray} {nL' idx : Nat} {rm' : Room} {ab : Int × Int} {τ1 : zS} (hM : z_MetF (l_l K) y cc' nL' rm' (l_M K) [.ref (z_ad (l_M K) 0)] τ ab τ1) (hCN : RX6 = y.cls) (hw : z_cv RL idx y cc' nL' (some .float) 0) (hR : rm'.frames + 1 ≤ 10 ∧ 8 + (nL' + 11) + rm'.locals ≤ 372) (hrc : rm'.cells = 0 ∧ rm'.slots = 0) (hsum : (st.map fun v => v.category).sum ≤ 8) (hd : decode cL_law pc = .ok (.invokevirtual idx, 3)) (kk : ∀ (r : UInt32) (d1 : Drawn), z_flt ab r → l_W K d1 σ τ1 (pc + 3) lv (.float r :: st)) : l_W K d0 σ τ pc lv (.ref (z_ad (l_M K) 0) :: st) := by
  have hz := l_cM hx d0
  obtain ⟨p, l, e, s, m, b, below, meth, c, L, xs, gC, gM, gs⟩ := K
  intro hd0 H locs ls hP hQ hS hl
  have hz := hz (lw_Z below #[Value.ref b] s)
  obtain ⟨x1, x2, x3, x4, x5, x6, x7, x8, x9, x10, x11, x12, x13, x14, x15, x16, x17, x18⟩ := hx
  have hF := z_free (g := gM) (σ := τ) (H := H) (x16 τ) (fun q h => h) hS
  have he := z_wd_get (mk := z_mk gM) (ad := gM.2.1) (σ := τ) (z_lt1 x12 (show 0 < 10 by decide))
  rw [z_kc0 x12] at he
  obtain ⟨h1, h2, h3, h4, h5, h6, h7, h8, h9, h10, h11, h12⟩ := hz
  have hrun : va_RunD lw_cs p l e room_1 (s.setDrawn d0) m #[Value.ref b] below meth c H locs 600000 7302250 0 0 (F0 m pc ls (.ref (z_ad gM 0) :: st)) st (z_QF gM ab τ1 (va_A (z_w gM τ) H.size) (Value.ref (z_ad gM 0) :: []).toArray) (va_A (z_w gM τ) H.size) := by
    have hc : vwCl[6]? = some (y.cls, TX6, 19) := by rw [← hCN]; rfl
    exact va_runV_D (As := []) (rest := st) ⟨h1, h2, h3, h4, h5⟩ (hM H.size) (cwV 0 h5 (fun w h => ⟨hw.1 w h, good_of_word (List.mem_filter.mp (hw.1 w h)).2⟩) rfl hrc.1 hrc.2 ⟨rfl, hw.2.2⟩ hR) ⟨z_blind, va_recv h6 hQ (q := (y.cls, TX6, 19)) hc he, fun U hU hW => ⟨rfl, by rw [hU], by rw [hU]; exact hQ, va_K.moved hW.alike h6, (h7 τ).weaken (fun _ _ _ _ => trivial)⟩⟩ rfl rfl hl.1 rfl (lv_room hsum) hd ⟨h10, h11⟩
  refine va_callfD hd0 hrun hS (fun q _ h => hF q h) hF (fun r1 u t H1 locs1 ht hvm hw1 hB hz1 hk1 hS1 d1 hd1 => ?_)
  obtain ⟨hfl, rfl⟩ := hw1
  obtain ⟨hP1, hK1, hD1⟩ := hB
  rw [ht] at hP1
  exact kk r1 d1 hfl hd1 H1 locs1 ls (l_keep hP (fun i j hi hj q => x17 j i (by rw [z_N0 x11] at hj; exact hj) (by rw [z_N1 x12] at hi; exact hi) q.symm) hk1) hP1 hS1 hl
/-- an int of the script -/
def l_v (K : LC) (i : Int) : Int := (l_xs K i.toNat).toInt
theorem l_v_zr {i : Int} : zr (l_v K i) := by
  unfold l_v zr
  have h1 := Int32.le_toInt (l_xs K i.toNat)
  have h2 := Int32.toInt_lt (l_xs K i.toNat)
  exact ⟨h1, h2⟩
theorem l_arg (hx : l_ok K) {i j : Int} (q0 q3 : Nat) (hq0 : lv[q0]? = some (0, .ref (l_b K))) (hq3 : lv[q3]? = some (3, .int (zi i))) (h0 : 0 ≤ i) (h1 : i + 5 ≤ (l_L K : Int)) (hj : 0 ≤ j ∧ j ≤ 4) (d1 : decode cL_law pc = .ok (.aload_n 0, 1)) (d2 : decode cL_law (pc + 1) = .ok (.iload_n 3, 1)) (d3 : decode cL_law (pc + 2) = .ok (.iconst j, 1)) (d4 : decode cL_law (pc + 3) = .ok (.iadd, 1)) (d5 : decode cL_law (pc + 4) = .ok (.iaload, 1)) (kk : l_W K d0 σ τ (pc + 5) lv (.int (zi (l_v K (i + j))) :: st)) : l_W K d0 σ τ pc lv st := by
  refine l_aload_n hx q0 (i := 0) d1 hq0 ?_
  refine l_iload_n hx q3 (i := 3) d2 hq3 ?_
  refine l_iconst hx d3 ?_
  refine l_iadd hx d4 ?_
  refine l_sld hx (by omega) (by omega) d5 ?_
  have : l_xs K (i + j).toNat = zi (l_v K (i + j)) := (zi_of _).symm
  rw [this]
  exact kk
end
