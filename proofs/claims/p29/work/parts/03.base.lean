/-! THE BASE: numbers of the machine, worlds whose objects stay where they are, and a row for each instruction over such a world -/
def zi (z : Int) : Int32 := Int32.ofInt z
def zl (z : Int) : Int64 := Int64.ofInt z
theorem zi_add (a b : Int) : zi a + zi b = zi (a + b) := (Int32.ofInt_add a b).symm
theorem zi_sub (a b : Int) : zi a - zi b = zi (a - b) := (Int32.ofInt_sub a b).symm
theorem zi_mul (a b : Int) : zi a * zi b = zi (a * b) := (Int32.ofInt_mul a b).symm
theorem zi_neg (a : Int) : - zi a = zi (-a) := (Int32.ofInt_neg a).symm
theorem zl_add (a b : Int) : zl a + zl b = zl (a + b) := (Int64.ofInt_add a b).symm
theorem zl_mul (a b : Int) : zl a * zl b = zl (a * b) := (Int64.ofInt_mul a b).symm
theorem zi_int {a : Int} (h : zr a) : (zi a).toInt = a := Int32.toInt_ofInt_of_le h.1 h.2
theorem zi_of (x : Int32) : zi x.toInt = x := Int32.ofInt_toInt x
theorem zi_lt {a b : Int} (ha : zr a) (hb : zr b) : zi a < zi b ↔ a < b := by rw [Int32.lt_iff_toInt_lt, zi_int ha, zi_int hb]
theorem zi_le {a b : Int} (ha : zr a) (hb : zr b) : zi a ≤ zi b ↔ a ≤ b := by rw [Int32.le_iff_toInt_le, zi_int ha, zi_int hb]
theorem zi_eq {a b : Int} (ha : zr a) (hb : zr b) : zi a = zi b ↔ a = b := by rw [← Int32.toInt_inj, zi_int ha, zi_int hb]
theorem zi_div {a b : Int} (ha : zr a) (hb : zr b) : zi a / zi b = zi (a.tdiv b) := by
  apply Int32.toInt_inj.mp
  rw [Int32.toInt_div, zi_int ha, zi_int hb]
  exact (Int32.toInt_ofInt (n := a.tdiv b)).symm
theorem zi_rem {a b : Int} (ha : zr a) (hb : zr b) : zi a - zi a / zi b * zi b = zi (a.tmod b) := by
  rw [zi_div ha hb, zi_mul, zi_sub]
  have h := Int.mul_tdiv_add_tmod a b
  have h2 : a.tdiv b * b = b * a.tdiv b := Int.mul_comm _ _
  exact congrArg zi (by omega)
theorem zi_clamp {a : Int} (h0 : 0 ≤ a) (h1 : a < 2147483648) : (zi a).toNatClampNeg = a.toNat := Int32.toNatClampNeg_ofInt_of_le (by omega) h1
theorem zi_0 : zi 0 = 0 := rfl
theorem zr_0 : zr 0 := by decide
theorem zi_neg_iff {a : Int} (ha : zr a) : zi a < 0 ↔ a < 0 := by rw [← zi_0, zi_lt ha zr_0]
theorem zi_in {i : Int} {n : Nat} (h0 : 0 ≤ i) (h1 : i < (n : Int)) (hn : n ≤ 2147483648) : vp_in (zi i) n := by
  have hr : zr i := ⟨by omega, by omega⟩
  intro h
  rcases h with h | h
  · rw [zi_neg_iff hr] at h; omega
  · rw [zi_clamp h0 (by omega)] at h; omega
theorem zi_long {a : Int} (h : zr a) : (zi a).toInt64 = zl a := Int32.toInt64_ofInt (by have := h.1; exact this) (by have := h.2; show a ≤ 2147483647; omega)
theorem zi_ushr16 (a : Int) : ((zi a).toUInt32 >>> ((zi 16).toUInt32 &&& Int32.toUInt32 31)).toInt32 = zi (z_ushr a 16) := by
  have h16 : ((zi 16).toUInt32 &&& Int32.toUInt32 31) = 16 := by decide
  rw [h16]
  apply Int32.toBitVec_inj.mp
  apply BitVec.eq_of_toNat_eq
  have h1 : (zi a).toBitVec = BitVec.ofInt 32 a := rfl
  have h2 : (zi (z_ushr a 16)).toBitVec = BitVec.ofInt 32 (z_ushr a 16) := rfl
  rw [h2]
  show (((zi a).toUInt32 >>> (16 : UInt32)).toBitVec).toNat = _
  rw [UInt32.toBitVec_shiftRight]
  have h5 : (zi a).toUInt32.toBitVec = BitVec.ofInt 32 a := rfl
  rw [h5]
  have h3 : ((16 : UInt32).toBitVec % 32) = (16 : BitVec 32) := by decide
  simp only [BitVec.toNat_ofInt, z_ushr]
  have h4 : (BitVec.ofInt 32 a >>> ((16 : UInt32).toBitVec % 32)).toNat = (a % 4294967296).toNat / 65536 := by
    rw [h3]
    show (BitVec.ofInt 32 a >>> (16 : Nat)).toNat = _
    rw [BitVec.toNat_ushiftRight, BitVec.toNat_ofInt, Nat.shiftRight_eq_div_pow]
    rfl
  rw [h4]
  omega
-- the world: cell k stands at 'ad k' and is 'mk k' of what it holds
def z_wd (mk : Nat → (Int → Int) → va_E) (N : Nat) (ad : Nat → Nat) (σ : zS) : va_W := (List.range N).map (fun k => (ad k, mk k (σ k)))
theorem z_wd_get {mk : Nat → (Int → Int) → va_E} {N : Nat} {ad : Nat → Nat} {σ : zS} {k : Nat} (h : k < N) : (z_wd mk N ad σ)[k]? = some (ad k, mk k (σ k)) := by simp [z_wd, h]
theorem z_wd_some {mk : Nat → (Int → Int) → va_E} {N : Nat} {ad : Nat → Nat} {σ : zS} {k : Nat} {q : Nat × va_E} (h : (z_wd mk N ad σ)[k]? = some q) : k < N ∧ q = (ad k, mk k (σ k)) := by
  by_cases hk : k < N
  · rw [z_wd_get hk] at h; exact ⟨hk, (Option.some.inj h).symm⟩
  · simp [z_wd, hk] at h
theorem z_wd_set {mk : Nat → (Int → Int) → va_E} {N : Nat} {ad : Nat → Nat} {σ τ : zS} {k : Nat} {e : va_E} (he : e = mk k (τ k)) (ho : ∀ a, a ≠ k → τ a = σ a) : (z_wd mk N ad σ).set k (ad k, e) = z_wd mk N ad τ := by
  apply List.ext_getElem?
  intro i
  rw [List.getElem?_set]
  by_cases hi : k = i
  · subst hi
    by_cases hk : k < N
    · rw [z_wd_get hk]; simp [z_wd, hk, he]
    · simp [z_wd, hk]
  · rw [if_neg hi]
    by_cases hk : i < N
    · rw [z_wd_get hk, z_wd_get hk, ho i (fun h => hi h.symm)]
    · simp [z_wd, hk]
theorem z_wd_D {mk : Nat → (Int → Int) → va_E} {N : Nat} {ad : Nat → Nat} {σ τ : zS} {A : Nat → Prop} (h : va_D A (z_wd mk N ad σ)) : va_D A (z_wd mk N ad τ) := by
  refine ⟨fun i j p q hi hj e => ?_, fun k q hk => ?_⟩
  · obtain ⟨h1, rfl⟩ := z_wd_some hi
    obtain ⟨h2, rfl⟩ := z_wd_some hj
    exact h.1 i j _ _ (z_wd_get h1) (z_wd_get h2) e
  · obtain ⟨h1, rfl⟩ := z_wd_some hk
    exact (h.2 k (ad k, mk k (σ k)) (z_wd_get h1) : A (ad k))
theorem z_wd_A {mk : Nat → (Int → Int) → va_E} {N : Nat} {ad : Nat → Nat} {σ τ : zS} {sz : Nat} : va_A (z_wd mk N ad σ) sz = va_A (z_wd mk N ad τ) sz := by
  have H : ∀ (σ τ : zS) (q : Nat), va_A (z_wd mk N ad σ) sz q → va_A (z_wd mk N ad τ) sz q := by
    intro σ τ q h
    rcases h with ⟨k, e, hk⟩ | h
    · obtain ⟨h1, h2⟩ := z_wd_some hk
      refine Or.inl ⟨k, mk k (τ k), ?_⟩
      rw [z_wd_get h1]
      rw [(Prod.mk.inj h2).1]
    · exact Or.inr h
  funext q
  exact propext ⟨H σ τ q, H τ σ q⟩
/-- the row of an array of ints whose values are f -/
abbrev z_ar (f : Int → Int) : Nat → Int32 := fun i => zi (f (i : Int))
theorem z_ar_up {f : Int → Int} {i v : Int} (h0 : 0 ≤ i) (h1 : i < 2147483648) : upd (z_ar f) (zi i).toNatClampNeg (zi v) = z_ar (fun b => if b = i then v else f b) := by
  funext j
  rw [zi_clamp h0 h1]
  simp only [upd, z_ar]
  by_cases h : j = i.toNat
  · rw [if_pos h, if_pos (by omega)]
  · rw [if_neg h, if_neg (by omega)]
-- the geometry of a world: its side (0 the class, 1 the reference), where the cells stand, the array classes, the classes' places
abbrev zG : Type := Nat × (Nat → Nat) × ClassId × ClassId × ClassId × va_G
abbrev vwCl : List vw_C := [(RX0, TX0, 6), (RX1, TX1, 2), (RX2, TX2, 9), (RX3, TX3, 7), (RX4, TX4, 7), (RX5, TX5, 7)]
def z_mk0 (ad : Nat → Nat) (cI cZ cR : ClassId) (k : Nat) (f : Int → Int) : va_E :=
  if k < 48 then
    (match k % 8 with
    | 0 => .inr (2, [.ref (ad (k + 1)), .int (zi (f 1)), .ref (ad (k + 2)), .ref (ad (k + 3)), .ref (ad (k + 4)), .ref (ad (k + 5)), .ref (ad (k + 6)), .int (zi (f 7)), .ref (ad (k + 7))])
    | 1 => .inl (cI, 200, .inl (z_ar f))
    | 6 => .inl (cZ, 20, .inl (z_ar f))
    | 7 => .inl (cI, 7, .inl (z_ar f))
    | _ => .inl (cI, 20, .inl (z_ar f)))
  else (match k with
    | 48 => .inr (0, [.ref (ad 49), .ref (ad 50), .ref (ad 51), .ref (ad 52), .ref (ad 53), .int (zi (f 5))])
    | 49 => .inl (cI, 20, .inl (z_ar f))
    | 50 => .inl (cI, 20, .inl (z_ar f))
    | 51 => .inl (cI, 20, .inl (z_ar f))
    | 52 => .inl (cZ, 20, .inl (z_ar f))
    | 53 => .inl (cI, 20, .inl (z_ar f))
    | 54 => .inr (3, [.ref (ad 55), .ref (ad 56), .int (zi (f 2)), .ref (ad 57), .int (zi (f 4)), .int (zi (f 5)), .ref (ad 58)])
    | 55 => .inl (cI, 200, .inl (z_ar f))
    | 56 => .inl (cI, 200, .inl (z_ar f))
    | 57 => .inl (cI, 200, .inl (z_ar f))
    | 58 => .inl (cZ, 200, .inl (z_ar f))
    | 59 => .inr (4, [.ref (ad 40), .int (zi (f 1)), .int (zi (f 2)), .int (zi (f 3)), .int (zi (f 4)), .int (zi (f 5)), .int (zi (f 6))])
    | 60 => .inr (1, [.ref (ad 61), .int (zi (f 1))])
    | 61 => .inl (cR, 4, .inr (.inr (.inr (.inr (fun i => some (ad (8 * (f (i : Int)).toNat)))))))
    | 62 => .inr (5, [.ref (ad 63), .int (zi (f 1)), .ref (ad 0), .ref (ad 60), .ref (ad 59), .ref (ad 48), .ref (ad 54)])
    | _ => .inl (cI, 120, .inl (z_ar f)))
def z_mk1 (ad : Nat → Nat) (cI : ClassId) (k : Nat) (f : Int → Int) : va_E := match k with
  | 0 => .inr (6, [.ref (ad 1), .ref (ad 2), .int (zi (f 2)), .ref (ad 3), .int (zi (f 4)), .int (zi (f 5)), .int (zi (f 6)), .int (zi (f 7)), .int (zi (f 8)), .ref (ad 4), .ref (ad 5), .ref (ad 6), .int (zi (f 12)), .ref (ad 7), .ref (ad 8), .int (zi (f 15)), .ref (ad 9), .int (zi (f 17)), .int (zi (f 18))])
  | 1 => .inl (cI, 320, .inl (z_ar f))
  | 2 => .inl (cI, 1280, .inl (z_ar f))
  | 3 => .inl (cI, 120, .inl (z_ar f))
  | 4 => .inl (cI, 120, .inl (z_ar f))
  | 5 => .inl (cI, 100, .inl (z_ar f))
  | 6 => .inl (cI, 100, .inl (z_ar f))
  | 7 => .inl (cI, 1400, .inl (z_ar f))
  | 8 => .inl (cI, 1400, .inl (z_ar f))
  | _ => .inl (cI, 200, .inl (z_ar f))
def z_mk (g : zG) : Nat → (Int → Int) → va_E := match g with
  | (0, ad, cI, cZ, cR, _) => z_mk0 ad cI cZ cR
  | (_, ad, cI, _, _, _) => z_mk1 ad cI
def z_N (g : zG) : Nat := match g.1 with
  | 0 => 64
  | _ => 10
abbrev z_ad (g : zG) (k : Nat) : Nat := g.2.1 k
def z_tys (g : zG) : List (ClassId × FieldType) := [(g.2.2.1, .int), (g.2.2.2.1, .boolean), (g.2.2.2.2.1, .object RX2)]
abbrev z_w (g : zG) (σ : zS) : va_W := z_wd (z_mk g) (z_N g) g.2.1 σ
-- the configuration of a walk: all that stays the same from instruction to instruction
abbrev zC : Type := Program × Launch × Env × Room × State × MethodId × Array Value × List Frame × Method × Code × (State → Prop) × Nat × Nat × (Nat → Prop) × Heap × Nat × zG
abbrev z_g (C : zC) : zG := C.2.2.2.2.2.2.2.2.2.2.2.2.2.2.2.2
abbrev z_l (C : zC) : Launch := C.2.1
abbrev z_R (C : zC) : Room := C.2.2.2.1
/-- the machine, from the place pc with these locals, this stack, and a heap whose world holds σ, comes to its end -/
def z_W (C : zC) (σ : zS) (pc : Nat) (lv : List (Nat × Value)) (st : List Value) : Prop := match C with
  | (p, l, e, R, s, m, args, below, meth, c, Q, cells, slots, A, H0, nL, g) => ∀ (H : Heap) (locs : List Loc) (ls : Array Slot), va_P g.2.2.2.2.2 vwCl (z_w g σ) H → va_S A H0 H locs → lv_has ls nL lv → W p l e R s m args below meth c H locs cells slots Q (F0 m pc ls st)
/-- what holds all the while: the machine, the code, the tables' words, the classes -/
def z_ok (C : zC) (cc : ByteArray) (own : String) (sd : Nat) : Prop := match C with
  | (p, _, _, R, s, m, args, _, _, c, _, cells, slots, A, H0, nL, g) => p.tables.exec = Jvm.exec ∧ c.code = cc ∧ c.maxLocals = nL ∧ s.vm.findClass own = some m.cls ∧ (∀ w ∈ z_ws, w.before args s = true) ∧ va_K g.2.2.2.2.2 vwCl (z_tys g) s ∧ (∀ σ, va_D A (z_w g σ)) ∧ (∀ q, H0.size ≤ q → A q) ∧ g.1 = sd ∧ cells ≤ R.cells ∧ slots ≤ R.slots ∧ H0 = s.heap
