/-! FINGERPRINT -/
/-- n numbers from the c-th on, put to the print y -/
def q_t (g : Int → Int) : Nat → Int → Int → Int
  | 0, _, y => y
  | n + 1, c, y => q_t g n (c + 1) (31 * y + g c)
/-- a mark's numbers -/
def q_mk (V : zV) (s : zL) (m : Int) : Int → Int := fun c => if c < 5 then v_K V c m else q_cutOf s m s.1.toNat 0
def q_m (V : zV) (s : zL) : Nat → Int → Int → Int
  | 0, _, y => y
  | n + 1, m, y => q_m V s n (m + 1) (q_t (q_mk V s m) 6 0 y)
def q_cc (s : zL) : Nat → Int → Int → Int
  | 0, _, y => y
  | n + 1, i, y => q_cc s n (i + 1) (q_t (fun c => s.2 c i) 5 0 y)
def q_rr (r : zP) : Nat → Int → Int → Int
  | 0, _, y => y
  | n + 1, i, y => q_rr r n (i + 1) (31 * (31 * y + r.2.1 i) + r.2.2 i)
/-- a setting, or another number -/
def q_sv (V : zV) (x : Int) : Int := if 0 ≤ x ∧ x < 7 then v_S V x else if x = 7 then v_F V else if x = 8 then v_M V else -1
theorem q_sv_ok {V : zV} (hV : v_ok V) {x : Int} (h0 : 0 ≤ x) (h1 : x < 9) : 0 ≤ q_sv V x ∧ q_sv V x ≤ 200 := by
  have hF := hV.1
  have hM := hV.2.1
  obtain ⟨a0, a1, a2, a3, a4, a5, a6⟩ := hV.2.2.2.2.2
  unfold q_sv
  by_cases a : x < 7
  · rw [if_pos ⟨h0, a⟩]
    rcases (show x = 0 ∨ x = 1 ∨ x = 2 ∨ x = 3 ∨ x = 4 ∨ x = 5 ∨ x = 6 by omega) with rfl | rfl | rfl | rfl | rfl | rfl | rfl <;> omega
  · rw [if_neg (by omega)]
    by_cases b : x = 7
    · rw [if_pos b]; omega
    · rw [if_neg b, if_pos (by omega)]; omega
theorem q_cutOf_ok (s : zL) (m : Int) : ∀ (n : Nat) (i : Int), 0 ≤ i → -9 ≤ q_cutOf s m n i ∧ q_cutOf s m n i ≤ i + n := by
  intro n
  induction n with
  | zero => intro i h; unfold q_cutOf; omega
  | succ n ih =>
    intro i h
    unfold q_cutOf
    have := ih (i + 1) (by omega)
    split <;> omega
theorem q_mk_ok {V : zV} (hV : v_ok V) {s : zL} (hn : 0 ≤ s.1 ∧ s.1 ≤ 20) {m c : Int} (m0 : 0 ≤ m) (m1 : m < v_M V) (hc : 0 ≤ c ∧ c ≤ 5) : -9 ≤ q_mk V s m c ∧ q_mk V s m c ≤ 200 := by
  have hk := hV.2.2.2.1 m m0 m1
  have hF := hV.1
  unfold v_mok at hk
  have h5 := q_cutOf_ok s m s.1.toNat 0 (by omega)
  unfold q_mk
  by_cases a : c < 5
  · rw [if_pos a]
    rcases (show c = 0 ∨ c = 1 ∨ c = 2 ∨ c = 3 ∨ c = 4 by omega) with rfl | rfl | rfl | rfl | rfl <;> omega
  · rw [if_neg a]; omega
-- the class'
theorem c_print6 {V : zV} (hV : v_ok V) {σ : zS} (hC : v_C σ 0 V) : ∀ (n f : Nat) (i y : Int), n < f → 0 ≤ i → i + n = 9 → f_X5_fingerprint_l6 f σ y i = f_X5_fingerprint_l33 z_fuel σ (q_t (q_sv V) n i y) 0 := by
  intro n
  induction n with
  | zero =>
    intro f i y hf i0 hi
    obtain ⟨f, rfl⟩ : ∃ k, f = k + 1 := ⟨f - 1, by omega⟩
    show f_X5_fingerprint_b6 _ σ y i = _
    unfold f_X5_fingerprint_b6
    rw [if_pos (by unfold zr; omega), if_pos (by omega)]
    rfl
  | succ n ih =>
    intro f i y hf i0 hi
    obtain ⟨f, rfl⟩ : ∃ k, f = k + 1 := ⟨f - 1, by omega⟩
    have hs : f_X5_setting σ i = some (q_sv V i, σ) := c_setting hC (by unfold zr; omega)
    have hb := q_sv_ok hV i0 (by omega)
    show f_X5_fingerprint_b6 _ σ y i = _
    unfold f_X5_fingerprint_b6
    rw [if_pos (by unfold zr; omega), if_neg (by omega), hs, z_bd, if_pos (by unfold zr; omega)]
    exact ih f (i + 1) _ (by omega) (by omega) (by omega)
theorem c_print33 {V : zV} (hV : v_ok V) {σ : zS} (hC : v_C σ 0 V) : ∀ (n f : Nat) (i y : Int), n < f → 0 ≤ i → i + n = v_F V → f_X5_fingerprint_l33 f σ y i = z_bind (f_X5_currentCuts σ) fun _ σ1 => z_bind (f_X5_withMarks σ1 (q_t (v_L V) n i y)) fun r3 σ2 => z_bind (f_X5_withCuts σ2 r3) fun r5 σ4 => z_bind (f_X5_currentResult σ4) fun _ σ6 => z_bind (f_X5_withResult σ6 r5) fun r8 σ7 => some (r8, σ7) := by
  intro n
  have hF := hV.1
  have h1 := (v_C0 hC).1
  induction n with
  | zero =>
    intro f i y hf i0 hi
    obtain ⟨f, rfl⟩ : ∃ k, f = k + 1 := ⟨f - 1, by omega⟩
    show f_X5_fingerprint_b33 _ σ y i = _
    unfold f_X5_fingerprint_b33
    rw [h1, if_pos (by unfold zr; omega), if_pos (by omega)]
    rfl
  | succ n ih =>
    intro f i y hf i0 hi
    obtain ⟨f, rfl⟩ : ∃ k, f = k + 1 := ⟨f - 1, by omega⟩
    have hl := (v_C0 hC).2.2.1 i i0 (by omega)
    have hb := hV.2.2.1 i i0 (by omega)
    show f_X5_fingerprint_b33 _ σ y i = _
    unfold f_X5_fingerprint_b33
    rw [h1, if_pos (by unfold zr; omega), if_neg (by omega), if_pos (by omega), hl, if_pos (by unfold zr; omega)]
    exact ih f (i + 1) _ (by omega) (by omega) (by omega)
theorem c_print21 {V : zV} (hV : v_ok V) {σ : zS} {s : zL} (hC : v_C σ 0 V) (hs : r_C σ s) (hk : q_cok V s (v_M V)) (K : zS → Int → Int → Option (Int × zS)) {m : Int} (m0 : 0 ≤ m) (m1 : m < v_M V) : ∀ (n f : Nat) (c y : Int), n < f → 0 ≤ c → c + n = 5 → f_X5_withMarks_l21 K f σ y m c = K σ (q_t (q_mk V s m) (n + 1) c y) (m + 1) := by
  intro n
  have hM := hV.2.1
  have hn := hk.1
  induction n with
  | zero =>
    intro f c y hf c0 hc
    obtain ⟨f, rfl⟩ : ∃ k, f = k + 1 := ⟨f - 1, by omega⟩
    have hco := c_cutOf (m := m) hs hk hM.2 (by unfold zr; omega) (by omega)
    have h5 := q_cutOf_ok s m s.1.toNat 0 (by omega)
    show f_X5_withMarks_b21 K _ σ y m c = _
    unfold f_X5_withMarks_b21
    rw [if_pos (by unfold zr; omega), if_pos (by omega), hco, z_bd, if_pos (by unfold zr; omega)]
    have e : q_mk V s m c = q_cutOf s m s.1.toNat 0 := by unfold q_mk; rw [if_neg (by omega)]
    show _ = K σ (31 * y + q_mk V s m c) (m + 1)
    rw [e]
  | succ n ih =>
    intro f c y hf c0 hc
    obtain ⟨f, rfl⟩ : ∃ k, f = k + 1 := ⟨f - 1, by omega⟩
    have hb := q_mk_ok hV (s := s) (by omega) m0 m1 (c := c) (by omega)
    have e : q_mk V s m c = v_K V c m := by unfold q_mk; rw [if_pos (by omega)]
    show f_X5_withMarks_b21 K _ σ y m c = _
    unfold f_X5_withMarks_b21
    rw [if_pos (by unfold zr; omega), if_neg (by omega), c_num hC hV m0 m1 (by omega), z_bd, ← e, if_pos (by unfold zr; omega)]
    exact ih f (c + 1) _ (by omega) (by omega) (by omega)
theorem c_printM {V : zV} (hV : v_ok V) {σ : zS} {s : zL} (hC : v_C σ 0 V) (hs : r_C σ s) (hk : q_cok V s (v_M V)) : ∀ (n f : Nat) (m y : Int), n < f → 0 ≤ m → m + n = v_M V → f_X5_withMarks_l6 f σ y m = some (q_m V s n m y, σ) := by
  intro n
  have hM := hV.2.1
  have h7 := (v_C0 hC).2.1
  induction n with
  | zero =>
    intro f m y hf m0 hm
    obtain ⟨f, rfl⟩ : ∃ k, f = k + 1 := ⟨f - 1, by omega⟩
    show f_X5_withMarks_b6 _ σ y m = _
    unfold f_X5_withMarks_b6
    rw [h7, if_pos (by unfold zr; omega), if_pos (by omega)]
    rfl
  | succ n ih =>
    intro f m y hf m0 hm
    obtain ⟨f, rfl⟩ : ∃ k, f = k + 1 := ⟨f - 1, by omega⟩
    show f_X5_withMarks_b6 _ σ y m = _
    unfold f_X5_withMarks_b6
    rw [h7, if_pos (by unfold zr; omega), if_neg (by omega), c_print21 hV hC hs hk _ m0 (by omega) 5 z_fuel 0 y (by unfold z_fuel; omega) (by omega) (by omega)]
    exact ih f (m + 1) _ (by omega) (by omega) (by omega)
theorem q_c_ok {V : zV} (hV : v_ok V) {s : zL} (hk : q_cok V s (v_M V)) {i c : Int} (i0 : 0 ≤ i) (i1 : i < s.1) (hc : 0 ≤ c ∧ c ≤ 4) : 0 ≤ s.2 c i ∧ s.2 c i ≤ 200 := by
  have hF := hV.1
  have hM := hV.2.1
  have := hk.2.1 i i0 i1
  rcases (show c = 0 ∨ c = 1 ∨ c = 2 ∨ c = 3 ∨ c = 4 by omega) with rfl | rfl | rfl | rfl | rfl <;> omega
theorem c_print28 {V : zV} (hV : v_ok V) {σ : zS} {s : zL} (hs : r_C σ s) (hk : q_cok V s (v_M V)) (K : zS → Int → Int → Option (Int × zS)) {i : Int} (i0 : 0 ≤ i) (i1 : i < s.1) : ∀ (n f : Nat) (c y : Int), n < f → 0 ≤ c → c + n = 5 → f_X5_withCuts_l28 K f σ y i c = K σ (q_t (fun c => s.2 c i) n c y) (i + 1) := by
  intro n
  have hM := hV.2.1
  induction n with
  | zero =>
    intro f c y hf c0 hc
    obtain ⟨f, rfl⟩ : ∃ k, f = k + 1 := ⟨f - 1, by omega⟩
    show f_X5_withCuts_b28 K _ σ y i c = _
    unfold f_X5_withCuts_b28
    rw [if_pos (by unfold zr; omega), if_pos (by omega)]
    rfl
  | succ n ih =>
    intro f c y hf c0 hc
    obtain ⟨f, rfl⟩ : ∃ k, f = k + 1 := ⟨f - 1, by omega⟩
    have hb := q_c_ok hV hk i0 i1 (c := c) (by omega)
    show f_X5_withCuts_b28 K _ σ y i c = _
    unfold f_X5_withCuts_b28
    rw [if_pos (by unfold zr; omega), if_neg (by omega), c_numCut hs hk hM.2 ⟨i0, i1⟩ (by omega), z_bd, if_pos (by unfold zr; omega)]
    exact ih f (c + 1) _ (by omega) (by omega) (by omega)
theorem c_printC {V : zV} (hV : v_ok V) {σ : zS} {s : zL} (hs : r_C σ s) (hk : q_cok V s (v_M V)) : ∀ (n f : Nat) (i y : Int), n < f → 0 ≤ i → i + n = s.1 → f_X5_withCuts_l16 f σ y i = some (q_cc s n i y, σ) := by
  intro n
  have hM := hV.2.1
  have h5 := hs.1
  have hn := hk.1
  induction n with
  | zero =>
    intro f i y hf i0 hi
    obtain ⟨f, rfl⟩ : ∃ k, f = k + 1 := ⟨f - 1, by omega⟩
    show f_X5_withCuts_b16 _ σ y i = _
    unfold f_X5_withCuts_b16
    rw [h5, if_pos (by unfold zr; omega), if_pos (by omega)]
    rfl
  | succ n ih =>
    intro f i y hf i0 hi
    obtain ⟨f, rfl⟩ : ∃ k, f = k + 1 := ⟨f - 1, by omega⟩
    show f_X5_withCuts_b16 _ σ y i = _
    unfold f_X5_withCuts_b16
    rw [h5, if_pos (by unfold zr; omega), if_neg (by omega), c_print28 hV hs hk _ i0 (by omega) 5 z_fuel 0 y (by unfold z_fuel; omega) (by omega) (by omega)]
    exact ih f (i + 1) _ (by omega) (by omega) (by omega)
theorem c_printR {V : zV} {b : Int} {σ : zS} {r : zP} (hs : r_P σ r) (hr : q_pok V r b) (hb : b ≤ 200) : ∀ (n f : Nat) (i y : Int), n < f → 0 ≤ i → i + n = r.1 → f_X5_withResult_l16 f σ y i = some (q_rr r n i y, σ) := by
  intro n
  have h54 := hs.1
  have hn := hr.1
  induction n with
  | zero =>
    intro f i y hf i0 hi
    obtain ⟨f, rfl⟩ : ∃ k, f = k + 1 := ⟨f - 1, by omega⟩
    show f_X5_withResult_b16 _ σ y i = _
    unfold f_X5_withResult_b16
    rw [h54, if_pos (by unfold zr; omega), if_pos (by omega)]
    rfl
  | succ n ih =>
    intro f i y hf i0 hi
    obtain ⟨f, rfl⟩ : ∃ k, f = k + 1 := ⟨f - 1, by omega⟩
    have h1 := hs.2 i i0 (by omega)
    have h3 := hr.2.1 i i0 (by omega)
    show f_X5_withResult_b16 _ σ y i = _
    unfold f_X5_withResult_b16
    rw [h54, if_pos (by unfold zr; omega), if_neg (by omega), if_pos (by omega), h1.1, h1.2, if_pos (by unfold zr; omega), if_pos (by omega), if_pos (by unfold zr; omega)]
    exact ih f (i + 1) _ (by omega) (by omega) (by omega)
-- the reference's
