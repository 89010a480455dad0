/-! ROWS OF FIELDS, ARRAYS, CALLS, BEGINNINGS AND ENDS -/
theorem z_up_row (σ : zS) (k : Nat) (i v : Int) : z_up σ k i v k = fun b => if b = i then v else σ k b := by
  funext b; simp [z_up]
theorem z_up_ne (σ : zS) (k : Nat) (i v : Int) (a : Nat) (h : a ≠ k) : z_up σ k i v a = σ a := by
  funext b; simp [z_up, h]
theorem z_side0 {g : zG} (h : g.1 = 0) : z_mk g = z_mk0 g.2.1 g.2.2.1 g.2.2.2.1 g.2.2.2.2.1 := by
  obtain ⟨sd, ad, cI, cZ, cR, D⟩ := g
  cases h
  rfl
theorem z_side1 {g : zG} (h : g.1 = 1) : z_mk g = z_mk1 g.2.1 g.2.2.1 := by
  obtain ⟨sd, ad, cI, cZ, cR, D⟩ := g
  cases h
  rfl
theorem z_N0 {g : zG} (h : g.1 = 0) : z_N g = 64 := by simp [z_N, h]
theorem z_N1 {g : zG} (h : g.1 = 1) : z_N g = 10 := by simp [z_N, h]
section
variable {C : zC} {cc : ByteArray} {own : String} {sd : Nat} {σ : zS} {pc : Nat} {lv : List (Nat × Value)} {st : List Value} {α : Type} {r : α}
theorem z_ok_sd (hx : z_ok C cc own sd) : (z_g C).1 = sd := by
  obtain ⟨p, l, e, R, s, m, args, below, meth, c, Q, cells, slots, A, H0, nL, g⟩ := C
  exact hx.2.2.2.2.2.2.2.2.1
theorem z_getf (hx : z_ok C cc own sd) {CN : String} {T : u_T} {N ci index : Nat} {k : Nat} (hk : k < z_N (z_g C)) {fs : List Value} (hm : z_mk (z_g C) k (σ k) = .inr (ci, fs)) (hc : vwCl[ci]? = some (CN, T, N)) (hin : ∀ w ∈ u_ws CN T N, w ∈ z_ws) (j : Nat) (hj : j < N) (hw : Cond.fieldLink own index CN (T j).2.1 (T j).2.2.1 ∈ z_ws) (hT : (T j).1 = CN) {v : Value} (hv : fs[j]? = some v) (hd : decode cc pc = .ok (.getfield index, 3)) (kk : z_W C σ (pc + 3) lv (v :: st)) : z_W C σ pc lv (.ref (z_ad (z_g C) k) :: st) := by
  obtain ⟨p, l, e, R, s, m, args, below, meth, c, Q, cells, slots, A, H0, nL, g⟩ := C
  intro H locs ls hP hS hl
  have he := z_wd_get (mk := z_mk g) (ad := g.2.1) (σ := σ) hk
  rw [hm] at he
  obtain ⟨h1, h2, h3, h4, h5, h6, h7, h8, h9, h10, h11, h12⟩ := hx
  exact va_get h1 h2 h5 hin h4 h6 hP k he hc j hj (h5 _ hw) (fun x hx => by rw [← hT]; exact hx) hv hd (kk H locs ls hP hS hl)
theorem z_putf (hx : z_ok C cc own sd) {CN : String} {T : u_T} {N ci index : Nat} {k : Nat} (hk : k < z_N (z_g C)) (fs : (Int → Int) → List Value) (hm : ∀ f, z_mk (z_g C) k f = .inr (ci, fs f)) (hc : vwCl[ci]? = some (CN, T, N)) (hin : ∀ w ∈ u_ws CN T N, w ∈ z_ws) (ty0 : Nat → FieldType) (hty : ∀ k, k < N → parseFieldDescriptor (T k).2.2.1 = some (ty0 k)) (hnm : ∀ a, a < N → ∀ b, b < N → a ≠ b → (T a).2.1 ≠ (T b).2.1) (j : Nat) (hj : j < N) (hw : Cond.fieldLink own index CN (T j).2.1 (T j).2.2.1 ∈ z_ws) (hT : (T j).1 = CN) (hfin : (T j).2.2.2 = false) (hI : ty0 j = .int) {v : Int} (hlen : ∀ f, j < (fs f).length) (hset : ∀ f, (fs f).set j (.int (zi v)) = fs (fun b => if b = (j : Int) then v else f b)) {i : Int} (hi : (j : Int) = i) {K : zS → Option α} (hd : decode cc pc = .ok (.putfield index, 3)) (h : z_put σ k i v K = some r) (kk : ∀ σ1, K σ1 = some r → z_W C σ1 (pc + 3) lv st) : z_W C σ pc lv (.int (zi v) :: .ref (z_ad (z_g C) k) :: st) := by
  have kk := kk _ h
  obtain ⟨p, l, e, R, s, m, args, below, meth, c, Q, cells, slots, A, H0, nL, g⟩ := C
  intro H locs ls hP hS hl
  have he := z_wd_get (mk := z_mk g) (ad := g.2.1) (σ := σ) hk
  rw [hm] at he
  obtain ⟨h1, h2, h3, h4, h5, h6, h7, h8, h9, h10, h11, h12⟩ := hx
  refine va_put h1 h2 h5 hin ty0 hty hnm h4 h6 hP (h7 σ) hS k he hc j hj (h5 _ hw) (fun x hx => by rw [← hT]; exact hx) hfin (ty := .int) (v := .int (zi v)) (by rw [hty j hj, hI]) rfl rfl (hlen _) hd (fun H1 locs1 hP1 hD1 hS1 => ?_)
  refine kk H1 locs1 ls ?_ hS1 hl
  have e1 := z_wd_set (mk := z_mk g) (N := z_N g) (ad := g.2.1) (σ := σ) (τ := z_up σ k i v) (k := k) (e := .inr (ci, (fs (σ k)).set j (.int (zi v)))) (by rw [z_up_row, hm, hset, hi]) (fun a ha => z_up_ne σ k i v a ha)
  rw [e1] at hP1
  exact hP1
theorem z_ald_aux {f : Int → Int} {i : Int} (h0 : 0 ≤ i) (h1 : i < 2147483648) : z_ar f (zi i).toNatClampNeg = zi (f i) := by
  show zi (f _) = _
  rw [zi_clamp h0 h1, Int.toNat_of_nonneg h0]
theorem z_iald (hx : z_ok C cc own sd) {k N : Nat} {n : Int} (hk : k < z_N (z_g C)) (hm : z_mk (z_g C) k (σ k) = .inl ((z_g C).2.2.1, N, .inl (z_ar (σ k)))) (hN : (N : Int) = n) (hb : n ≤ 2147483647) {i : Int} {A : Option α} (hd : decode cc pc = .ok (.iaload, 1)) (h : (if 0 ≤ i ∧ i < n then A else none) = some r) (kk : A = some r → z_W C σ (pc + 1) lv (.int (zi (σ k i)) :: st)) : z_W C σ pc lv (.int (zi i) :: .ref (z_ad (z_g C) k) :: st) := by
  obtain ⟨⟨i0, i1⟩, h⟩ := z_gd h
  have kk := kk h
  obtain ⟨p, l, e, R, s, m, args, below, meth, c, Q, cells, slots, A, H0, nL, g⟩ := C
  intro H locs ls hP hS hl
  have he := z_wd_get (mk := z_mk g) (ad := g.2.1) (σ := σ) hk
  rw [hm] at he
  obtain ⟨h1, h2, h3, h4, h5, h6, h7, h8, h9, h10, h11, h12⟩ := hx
  refine va_iald h1 h2 h6 hP k 0 he rfl (zi_in i0 (by omega) (by omega)) hd ?_
  rw [z_ald_aux i0 (by omega)]
  exact kk H locs ls hP hS hl
theorem z_zald (hx : z_ok C cc own sd) {k N : Nat} {n : Int} (hk : k < z_N (z_g C)) (hm : z_mk (z_g C) k (σ k) = .inl ((z_g C).2.2.2.1, N, .inl (z_ar (σ k)))) (hN : (N : Int) = n) (hb : n ≤ 2147483647) {i : Int} {A : Option α} (hd : decode cc pc = .ok (.baload, 1)) (h : (if 0 ≤ i ∧ i < n then A else none) = some r) (kk : A = some r → z_W C σ (pc + 1) lv (.int (zi (σ k i)) :: st)) : z_W C σ pc lv (.int (zi i) :: .ref (z_ad (z_g C) k) :: st) := by
  obtain ⟨⟨i0, i1⟩, h⟩ := z_gd h
  have kk := kk h
  obtain ⟨p, l, e, R, s, m, args, below, meth, c, Q, cells, slots, A, H0, nL, g⟩ := C
  intro H locs ls hP hS hl
  have he := z_wd_get (mk := z_mk g) (ad := g.2.1) (σ := σ) hk
  rw [hm] at he
  obtain ⟨h1, h2, h3, h4, h5, h6, h7, h8, h9, h10, h11, h12⟩ := hx
  refine va_zald h1 h2 h6 hP k 1 he rfl (zi_in i0 (by omega) (by omega)) hd ?_
  rw [z_ald_aux i0 (by omega)]
  exact kk H locs ls hP hS hl
theorem z_iast (hx : z_ok C cc own sd) {k N : Nat} {n : Int} (hk : k < z_N (z_g C)) (hm : ∀ f, z_mk (z_g C) k f = .inl ((z_g C).2.2.1, N, .inl (z_ar f))) (hN : (N : Int) = n) (hb : n ≤ 2147483647) {i v : Int} {K : zS → Option α} (hd : decode cc pc = .ok (.iastore, 1)) (h : (if 0 ≤ i ∧ i < n then z_put σ k i v K else none) = some r) (kk : ∀ σ1, K σ1 = some r → z_W C σ1 (pc + 1) lv st) : z_W C σ pc lv (.int (zi v) :: .int (zi i) :: .ref (z_ad (z_g C) k) :: st) := by
  obtain ⟨⟨i0, i1⟩, h⟩ := z_gd h
  have kk := kk _ h
  obtain ⟨p, l, e, R, s, m, args, below, meth, c, Q, cells, slots, A, H0, nL, g⟩ := C
  intro H locs ls hP hS hl
  have he := z_wd_get (mk := z_mk g) (ad := g.2.1) (σ := σ) hk
  rw [hm] at he
  obtain ⟨h1, h2, h3, h4, h5, h6, h7, h8, h9, h10, h11, h12⟩ := hx
  refine va_iast h1 h2 h6 hP (h7 σ) hS k 0 he rfl (zi_in i0 (by omega) (by omega)) hd (fun H1 locs1 hP1 hD1 hS1 => ?_)
  refine kk H1 locs1 ls ?_ hS1 hl
  rw [z_ar_up i0 (by omega)] at hP1
  have e1 := z_wd_set (mk := z_mk g) (N := z_N g) (ad := g.2.1) (σ := σ) (τ := z_up σ k i v) (k := k) (e := .inl (g.2.2.1, N, .inl (z_ar (fun b => if b = i then v else σ k b)))) (by rw [z_up_row]; exact (hm _).symm) (fun a ha => z_up_ne σ k i v a ha)
  show va_P g.2.2.2.2.2 vwCl (z_wd (z_mk g) (z_N g) g.2.1 (z_up σ k i v)) H1
  rw [← e1]
  exact hP1
theorem z_nar {v : Int} (h : 0 ≤ v ∧ v ≤ 1) : vp_nar .boolean (zi v) = zi v ∧ narrow .boolean (.int (zi v)) = .int (zi v) := by
  rcases (show v = 0 ∨ v = 1 by omega) with rfl | rfl <;> exact ⟨rfl, rfl⟩
theorem z_zast (hx : z_ok C cc own sd) {k N : Nat} {n : Int} (hk : k < z_N (z_g C)) (hm : ∀ f, z_mk (z_g C) k f = .inl ((z_g C).2.2.2.1, N, .inl (z_ar f))) (hN : (N : Int) = n) (hb : n ≤ 2147483647) {i v : Int} {K : zS → Option α} (hd : decode cc pc = .ok (.bastore, 1)) (h : (if (0 ≤ i ∧ i < n) ∧ 0 ≤ v ∧ v ≤ 1 then z_put σ k i v K else none) = some r) (kk : ∀ σ1, K σ1 = some r → z_W C σ1 (pc + 1) lv st) : z_W C σ pc lv (.int (zi v) :: .int (zi i) :: .ref (z_ad (z_g C) k) :: st) := by
  obtain ⟨⟨⟨i0, i1⟩, hv⟩, h⟩ := z_gd h
  have kk := kk _ h
  obtain ⟨p, l, e, R, s, m, args, below, meth, c, Q, cells, slots, A, H0, nL, g⟩ := C
  intro H locs ls hP hS hl
  have he := z_wd_get (mk := z_mk g) (ad := g.2.1) (σ := σ) hk
  rw [hm] at he
  obtain ⟨h1, h2, h3, h4, h5, h6, h7, h8, h9, h10, h11, h12⟩ := hx
  refine va_zast h1 h2 h6 hP (h7 σ) hS k 1 he rfl (zi_in i0 (by omega) (by omega)) hd (fun H1 locs1 hP1 hD1 hS1 => ?_)
  refine kk H1 locs1 ls ?_ hS1 hl
  rw [(z_nar hv).1, z_ar_up i0 (by omega)] at hP1
  have e1 := z_wd_set (mk := z_mk g) (N := z_N g) (ad := g.2.1) (σ := σ) (τ := z_up σ k i v) (k := k) (e := .inl (g.2.2.2.1, N, .inl (z_ar (fun b => if b = i then v else σ k b)))) (by rw [z_up_row]; exact (hm _).symm) (fun a ha => z_up_ne σ k i v a ha)
  show va_P g.2.2.2.2.2 vwCl (z_wd (z_mk g) (z_N g) g.2.1 (z_up σ k i v)) H1
  rw [← e1]
  exact hP1
theorem z_alen (hx : z_ok C cc own sd) {k N : Nat} {n : Int} (hk : k < z_N (z_g C)) (hm : z_mk (z_g C) k (σ k) = .inl ((z_g C).2.2.1, N, .inl (z_ar (σ k)))) (hN : Int32.ofNat N = zi n) (hd : decode cc pc = .ok (.arraylength, 1)) (kk : z_W C σ (pc + 1) lv (.int (zi n) :: st)) : z_W C σ pc lv (.ref (z_ad (z_g C) k) :: st) := by
  obtain ⟨p, l, e, R, s, m, args, below, meth, c, Q, cells, slots, A, H0, nL, g⟩ := C
  intro H locs ls hP hS hl
  have he := z_wd_get (mk := z_mk g) (ad := g.2.1) (σ := σ) hk
  rw [hm] at he
  obtain ⟨h1, h2, h3, h4, h5, h6, h7, h8, h9, h10, h11, h12⟩ := hx
  exact va_alen h1 h2 h6 hP k 0 he rfl hN hd (kk H locs ls hP hS hl)
end
