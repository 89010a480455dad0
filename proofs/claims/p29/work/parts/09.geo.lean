/-! THE CELLS OF THE WORLDS, AND A ROW FOR EACH FIELD (by program) -/
theorem z_lt0 {g : zG} (h : g.1 = 0) {k : Nat} (hk : k < 64) : k < z_N g := by rw [z_N0 h]; exact hk
theorem z_lt1 {g : zG} (h : g.1 = 1) {k : Nat} (hk : k < 10) : k < z_N g := by rw [z_N1 h]; exact hk
theorem z_room {C : zC} {rm : Room} (hR : z_R C = rm) {a b : Nat} (h : a ≤ rm.frames ∧ b ≤ rm.locals) : a ≤ (z_R C).frames ∧ b ≤ (z_R C).locals := by rw [hR]; exact h
theorem z_lk4 {a b c d oa ob oc od dflt x : Int} (ha : ¬ x = a) (hb : ¬ x = b) (hc : ¬ x = c) (hd : ¬ x = d) : Op.lookupswitch.offset [(a, oa), (b, ob), (c, oc), (d, od)] dflt x = dflt := by
  rw [Op.lookupswitch.offset_cons, if_neg (Ne.symm ha), Op.lookupswitch.offset_cons, if_neg (Ne.symm hb), Op.lookupswitch.offset_cons, if_neg (Ne.symm hc), Op.lookupswitch.offset_cons, if_neg (Ne.symm hd)]
  rfl
theorem z_ka0 {g : zG} (h : g.1 = 0) {j : Nat} (hj : j < 6) (f : Int → Int) : z_mk g (8 * j) f = .inr (2, [.ref (g.2.1 (8 * j + 1)), .int (zi (f 1)), .ref (g.2.1 (8 * j + 2)), .ref (g.2.1 (8 * j + 3)), .ref (g.2.1 (8 * j + 4)), .ref (g.2.1 (8 * j + 5)), .ref (g.2.1 (8 * j + 6)), .int (zi (f 7)), .ref (g.2.1 (8 * j + 7))]) := by
  rw [z_side0 h]
  rcases (show j = 0 ∨ j = 1 ∨ j = 2 ∨ j = 3 ∨ j = 4 ∨ j = 5 by omega) with rfl | rfl | rfl | rfl | rfl | rfl <;> rfl
theorem z_ka1 {g : zG} (h : g.1 = 0) {j : Nat} (hj : j < 6) (f : Int → Int) : z_mk g (8 * j + 1) f = .inl (g.2.2.1, 200, .inl (z_ar f)) := by
  rw [z_side0 h]
  rcases (show j = 0 ∨ j = 1 ∨ j = 2 ∨ j = 3 ∨ j = 4 ∨ j = 5 by omega) with rfl | rfl | rfl | rfl | rfl | rfl <;> rfl
theorem z_ka2 {g : zG} (h : g.1 = 0) {j : Nat} (hj : j < 6) (f : Int → Int) : z_mk g (8 * j + 2) f = .inl (g.2.2.1, 20, .inl (z_ar f)) := by
  rw [z_side0 h]
  rcases (show j = 0 ∨ j = 1 ∨ j = 2 ∨ j = 3 ∨ j = 4 ∨ j = 5 by omega) with rfl | rfl | rfl | rfl | rfl | rfl <;> rfl
theorem z_ka3 {g : zG} (h : g.1 = 0) {j : Nat} (hj : j < 6) (f : Int → Int) : z_mk g (8 * j + 3) f = .inl (g.2.2.1, 20, .inl (z_ar f)) := by
  rw [z_side0 h]
  rcases (show j = 0 ∨ j = 1 ∨ j = 2 ∨ j = 3 ∨ j = 4 ∨ j = 5 by omega) with rfl | rfl | rfl | rfl | rfl | rfl <;> rfl
theorem z_ka4 {g : zG} (h : g.1 = 0) {j : Nat} (hj : j < 6) (f : Int → Int) : z_mk g (8 * j + 4) f = .inl (g.2.2.1, 20, .inl (z_ar f)) := by
  rw [z_side0 h]
  rcases (show j = 0 ∨ j = 1 ∨ j = 2 ∨ j = 3 ∨ j = 4 ∨ j = 5 by omega) with rfl | rfl | rfl | rfl | rfl | rfl <;> rfl
theorem z_ka5 {g : zG} (h : g.1 = 0) {j : Nat} (hj : j < 6) (f : Int → Int) : z_mk g (8 * j + 5) f = .inl (g.2.2.1, 20, .inl (z_ar f)) := by
  rw [z_side0 h]
  rcases (show j = 0 ∨ j = 1 ∨ j = 2 ∨ j = 3 ∨ j = 4 ∨ j = 5 by omega) with rfl | rfl | rfl | rfl | rfl | rfl <;> rfl
theorem z_ka6 {g : zG} (h : g.1 = 0) {j : Nat} (hj : j < 6) (f : Int → Int) : z_mk g (8 * j + 6) f = .inl (g.2.2.2.1, 20, .inl (z_ar f)) := by
  rw [z_side0 h]
  rcases (show j = 0 ∨ j = 1 ∨ j = 2 ∨ j = 3 ∨ j = 4 ∨ j = 5 by omega) with rfl | rfl | rfl | rfl | rfl | rfl <;> rfl
theorem z_ka7 {g : zG} (h : g.1 = 0) {j : Nat} (hj : j < 6) (f : Int → Int) : z_mk g (8 * j + 7) f = .inl (g.2.2.1, 7, .inl (z_ar f)) := by
  rw [z_side0 h]
  rcases (show j = 0 ∨ j = 1 ∨ j = 2 ∨ j = 3 ∨ j = 4 ∨ j = 5 by omega) with rfl | rfl | rfl | rfl | rfl | rfl <;> rfl
theorem z_kb48 {g : zG} (h : g.1 = 0) (f : Int → Int) : z_mk g 48 f = .inr (0, [.ref (g.2.1 49), .ref (g.2.1 50), .ref (g.2.1 51), .ref (g.2.1 52), .ref (g.2.1 53), .int (zi (f 5))]) := by
  rw [z_side0 h]
  rfl
theorem z_kb49 {g : zG} (h : g.1 = 0) (f : Int → Int) : z_mk g 49 f = .inl (g.2.2.1, 20, .inl (z_ar f)) := by
  rw [z_side0 h]
  rfl
theorem z_kb50 {g : zG} (h : g.1 = 0) (f : Int → Int) : z_mk g 50 f = .inl (g.2.2.1, 20, .inl (z_ar f)) := by
  rw [z_side0 h]
  rfl
theorem z_kb51 {g : zG} (h : g.1 = 0) (f : Int → Int) : z_mk g 51 f = .inl (g.2.2.1, 20, .inl (z_ar f)) := by
  rw [z_side0 h]
  rfl
theorem z_kb52 {g : zG} (h : g.1 = 0) (f : Int → Int) : z_mk g 52 f = .inl (g.2.2.2.1, 20, .inl (z_ar f)) := by
  rw [z_side0 h]
  rfl
theorem z_kb53 {g : zG} (h : g.1 = 0) (f : Int → Int) : z_mk g 53 f = .inl (g.2.2.1, 20, .inl (z_ar f)) := by
  rw [z_side0 h]
  rfl
theorem z_kb60 {g : zG} (h : g.1 = 0) (f : Int → Int) : z_mk g 60 f = .inr (1, [.ref (g.2.1 61), .int (zi (f 1))]) := by
  rw [z_side0 h]
  rfl
theorem z_kb54 {g : zG} (h : g.1 = 0) (f : Int → Int) : z_mk g 54 f = .inr (3, [.ref (g.2.1 55), .ref (g.2.1 56), .int (zi (f 2)), .ref (g.2.1 57), .int (zi (f 4)), .int (zi (f 5)), .ref (g.2.1 58)]) := by
  rw [z_side0 h]
  rfl
theorem z_kb55 {g : zG} (h : g.1 = 0) (f : Int → Int) : z_mk g 55 f = .inl (g.2.2.1, 200, .inl (z_ar f)) := by
  rw [z_side0 h]
  rfl
theorem z_kb56 {g : zG} (h : g.1 = 0) (f : Int → Int) : z_mk g 56 f = .inl (g.2.2.1, 200, .inl (z_ar f)) := by
  rw [z_side0 h]
  rfl
theorem z_kb57 {g : zG} (h : g.1 = 0) (f : Int → Int) : z_mk g 57 f = .inl (g.2.2.1, 200, .inl (z_ar f)) := by
  rw [z_side0 h]
  rfl
theorem z_kb58 {g : zG} (h : g.1 = 0) (f : Int → Int) : z_mk g 58 f = .inl (g.2.2.2.1, 200, .inl (z_ar f)) := by
  rw [z_side0 h]
  rfl
theorem z_kb59 {g : zG} (h : g.1 = 0) (f : Int → Int) : z_mk g 59 f = .inr (4, [.ref (g.2.1 40), .int (zi (f 1)), .int (zi (f 2)), .int (zi (f 3)), .int (zi (f 4)), .int (zi (f 5)), .int (zi (f 6))]) := by
  rw [z_side0 h]
  rfl
theorem z_kb62 {g : zG} (h : g.1 = 0) (f : Int → Int) : z_mk g 62 f = .inr (5, [.ref (g.2.1 63), .int (zi (f 1)), .ref (g.2.1 0), .ref (g.2.1 60), .ref (g.2.1 59), .ref (g.2.1 48), .ref (g.2.1 54)]) := by
  rw [z_side0 h]
  rfl
theorem z_kb63 {g : zG} (h : g.1 = 0) (f : Int → Int) : z_mk g 63 f = .inl (g.2.2.1, 120, .inl (z_ar f)) := by
  rw [z_side0 h]
  rfl
theorem z_kb61 {g : zG} (h : g.1 = 0) (f : Int → Int) : z_mk g 61 f = .inl (g.2.2.2.2.1, 4, .inr (.inr (.inr (.inr (fun i => some (g.2.1 (8 * (f (i : Int)).toNat))))))) := by
  rw [z_side0 h]
  rfl
section
variable {C : zC} {cc : ByteArray} {own : String} {σ : zS} {pc : Nat} {lv : List (Nat × Value)} {st : List Value} {α : Type} {r : α}
theorem gf_X0_begins (hx : z_ok C cc own 0) {idx : Nat} (hw : Cond.fieldLink own idx RX0 "begins" "[I" ∈ z_ws) (hd : decode cc pc = .ok (.getfield idx, 3)) (kk : z_W C σ (pc + 3) lv (.ref (z_ad (z_g C) 49) :: st)) : z_W C σ pc lv (.ref (z_ad (z_g C) 48) :: st) := z_getf hx (z_lt0 (z_ok_sd hx) (by omega)) (z_kb48 (z_ok_sd hx) _) rfl z_inX0 0 (by decide) hw rfl rfl hd kk
theorem gf_X0_ends (hx : z_ok C cc own 0) {idx : Nat} (hw : Cond.fieldLink own idx RX0 "ends" "[I" ∈ z_ws) (hd : decode cc pc = .ok (.getfield idx, 3)) (kk : z_W C σ (pc + 3) lv (.ref (z_ad (z_g C) 50) :: st)) : z_W C σ pc lv (.ref (z_ad (z_g C) 48) :: st) := z_getf hx (z_lt0 (z_ok_sd hx) (by omega)) (z_kb48 (z_ok_sd hx) _) rfl z_inX0 1 (by decide) hw rfl rfl hd kk
theorem gf_X0_pauses (hx : z_ok C cc own 0) {idx : Nat} (hw : Cond.fieldLink own idx RX0 "pauses" "[I" ∈ z_ws) (hd : decode cc pc = .ok (.getfield idx, 3)) (kk : z_W C σ (pc + 3) lv (.ref (z_ad (z_g C) 51) :: st)) : z_W C σ pc lv (.ref (z_ad (z_g C) 48) :: st) := z_getf hx (z_lt0 (z_ok_sd hx) (by omega)) (z_kb48 (z_ok_sd hx) _) rfl z_inX0 2 (by decide) hw rfl rfl hd kk
theorem gf_X0_rough (hx : z_ok C cc own 0) {idx : Nat} (hw : Cond.fieldLink own idx RX0 "rough" "[Z" ∈ z_ws) (hd : decode cc pc = .ok (.getfield idx, 3)) (kk : z_W C σ (pc + 3) lv (.ref (z_ad (z_g C) 52) :: st)) : z_W C σ pc lv (.ref (z_ad (z_g C) 48) :: st) := z_getf hx (z_lt0 (z_ok_sd hx) (by omega)) (z_kb48 (z_ok_sd hx) _) rfl z_inX0 3 (by decide) hw rfl rfl hd kk
theorem gf_X0_markNumbers (hx : z_ok C cc own 0) {idx : Nat} (hw : Cond.fieldLink own idx RX0 "markNumbers" "[I" ∈ z_ws) (hd : decode cc pc = .ok (.getfield idx, 3)) (kk : z_W C σ (pc + 3) lv (.ref (z_ad (z_g C) 53) :: st)) : z_W C σ pc lv (.ref (z_ad (z_g C) 48) :: st) := z_getf hx (z_lt0 (z_ok_sd hx) (by omega)) (z_kb48 (z_ok_sd hx) _) rfl z_inX0 4 (by decide) hw rfl rfl hd kk
theorem gf_X0_count (hx : z_ok C cc own 0) {idx : Nat} (hw : Cond.fieldLink own idx RX0 "count" "I" ∈ z_ws) (hd : decode cc pc = .ok (.getfield idx, 3)) (kk : z_W C σ (pc + 3) lv (.int (zi (σ 48 5)) :: st)) : z_W C σ pc lv (.ref (z_ad (z_g C) 48) :: st) := z_getf hx (z_lt0 (z_ok_sd hx) (by omega)) (z_kb48 (z_ok_sd hx) _) rfl z_inX0 5 (by decide) hw rfl rfl hd kk
theorem pf_X0_count (hx : z_ok C cc own 0) {idx : Nat} (hw : Cond.fieldLink own idx RX0 "count" "I" ∈ z_ws) {v : Int} {K : zS → Option α} (hd : decode cc pc = .ok (.putfield idx, 3)) (h : z_put σ 48 5 v K = some r) (kk : ∀ σ1, K σ1 = some r → z_W C σ1 (pc + 3) lv st) : z_W C σ pc lv (.int (zi v) :: .ref (z_ad (z_g C) 48) :: st) := z_putf hx (z_lt0 (z_ok_sd hx) (by omega)) (fun f => [.ref (z_ad (z_g C) 49), .ref (z_ad (z_g C) 50), .ref (z_ad (z_g C) 51), .ref (z_ad (z_g C) 52), .ref (z_ad (z_g C) 53), .int (zi (f 5))]) (z_kb48 (z_ok_sd hx)) rfl z_inX0 tyX0 tyX0_ok nmX0 5 (by decide) hw rfl rfl rfl (fun _ => by simp) (fun f => by simp) rfl hd h kk
theorem gf_X1_states (hx : z_ok C cc own 0) {idx : Nat} (hw : Cond.fieldLink own idx RX1 "states" "[LSpeechCleaner$Recording;" ∈ z_ws) (hd : decode cc pc = .ok (.getfield idx, 3)) (kk : z_W C σ (pc + 3) lv (.ref (z_ad (z_g C) 61) :: st)) : z_W C σ pc lv (.ref (z_ad (z_g C) 60) :: st) := z_getf hx (z_lt0 (z_ok_sd hx) (by omega)) (z_kb60 (z_ok_sd hx) _) rfl z_inX1 0 (by decide) hw rfl rfl hd kk
theorem gf_X1_count (hx : z_ok C cc own 0) {idx : Nat} (hw : Cond.fieldLink own idx RX1 "count" "I" ∈ z_ws) (hd : decode cc pc = .ok (.getfield idx, 3)) (kk : z_W C σ (pc + 3) lv (.int (zi (σ 60 1)) :: st)) : z_W C σ pc lv (.ref (z_ad (z_g C) 60) :: st) := z_getf hx (z_lt0 (z_ok_sd hx) (by omega)) (z_kb60 (z_ok_sd hx) _) rfl z_inX1 1 (by decide) hw rfl rfl hd kk
theorem pf_X1_count (hx : z_ok C cc own 0) {idx : Nat} (hw : Cond.fieldLink own idx RX1 "count" "I" ∈ z_ws) {v : Int} {K : zS → Option α} (hd : decode cc pc = .ok (.putfield idx, 3)) (h : z_put σ 60 1 v K = some r) (kk : ∀ σ1, K σ1 = some r → z_W C σ1 (pc + 3) lv st) : z_W C σ pc lv (.int (zi v) :: .ref (z_ad (z_g C) 60) :: st) := z_putf hx (z_lt0 (z_ok_sd hx) (by omega)) (fun f => [.ref (z_ad (z_g C) 61), .int (zi (f 1))]) (z_kb60 (z_ok_sd hx)) rfl z_inX1 tyX1 tyX1_ok nmX1 1 (by decide) hw rfl rfl rfl (fun _ => by simp) (fun f => by simp) rfl hd h kk
theorem gf_X2_levels (hx : z_ok C cc own 0) {idx : Nat} (hw : Cond.fieldLink own idx RX2 "levels" "[I" ∈ z_ws) {j : Nat} (hj : j < 6) (hd : decode cc pc = .ok (.getfield idx, 3)) (kk : z_W C σ (pc + 3) lv (.ref (z_ad (z_g C) (8 * j + 1)) :: st)) : z_W C σ pc lv (.ref (z_ad (z_g C) (8 * j)) :: st) := z_getf hx (z_lt0 (z_ok_sd hx) (by omega)) (z_ka0 (z_ok_sd hx) hj _) rfl z_inX2 0 (by decide) hw rfl rfl hd kk
theorem gf_X2_frames (hx : z_ok C cc own 0) {idx : Nat} (hw : Cond.fieldLink own idx RX2 "frames" "I" ∈ z_ws) {j : Nat} (hj : j < 6) (hd : decode cc pc = .ok (.getfield idx, 3)) (kk : z_W C σ (pc + 3) lv (.int (zi (σ (8 * j) 1)) :: st)) : z_W C σ pc lv (.ref (z_ad (z_g C) (8 * j)) :: st) := z_getf hx (z_lt0 (z_ok_sd hx) (by omega)) (z_ka0 (z_ok_sd hx) hj _) rfl z_inX2 1 (by decide) hw rfl rfl hd kk
theorem pf_X2_frames (hx : z_ok C cc own 0) {idx : Nat} (hw : Cond.fieldLink own idx RX2 "frames" "I" ∈ z_ws) {j : Nat} (hj : j < 6) {v : Int} {K : zS → Option α} (hd : decode cc pc = .ok (.putfield idx, 3)) (h : z_put σ (8 * j) 1 v K = some r) (kk : ∀ σ1, K σ1 = some r → z_W C σ1 (pc + 3) lv st) : z_W C σ pc lv (.int (zi v) :: .ref (z_ad (z_g C) (8 * j)) :: st) := z_putf hx (z_lt0 (z_ok_sd hx) (by omega)) (fun f => [.ref (z_ad (z_g C) (8 * j + 1)), .int (zi (f 1)), .ref (z_ad (z_g C) (8 * j + 2)), .ref (z_ad (z_g C) (8 * j + 3)), .ref (z_ad (z_g C) (8 * j + 4)), .ref (z_ad (z_g C) (8 * j + 5)), .ref (z_ad (z_g C) (8 * j + 6)), .int (zi (f 7)), .ref (z_ad (z_g C) (8 * j + 7))]) (z_ka0 (z_ok_sd hx) hj) rfl z_inX2 tyX2 tyX2_ok nmX2 1 (by decide) hw rfl rfl rfl (fun _ => by simp) (fun f => by simp) rfl hd h kk
theorem gf_X2_kinds (hx : z_ok C cc own 0) {idx : Nat} (hw : Cond.fieldLink own idx RX2 "kinds" "[I" ∈ z_ws) {j : Nat} (hj : j < 6) (hd : decode cc pc = .ok (.getfield idx, 3)) (kk : z_W C σ (pc + 3) lv (.ref (z_ad (z_g C) (8 * j + 2)) :: st)) : z_W C σ pc lv (.ref (z_ad (z_g C) (8 * j)) :: st) := z_getf hx (z_lt0 (z_ok_sd hx) (by omega)) (z_ka0 (z_ok_sd hx) hj _) rfl z_inX2 2 (by decide) hw rfl rfl hd kk
theorem gf_X2_firsts (hx : z_ok C cc own 0) {idx : Nat} (hw : Cond.fieldLink own idx RX2 "firsts" "[I" ∈ z_ws) {j : Nat} (hj : j < 6) (hd : decode cc pc = .ok (.getfield idx, 3)) (kk : z_W C σ (pc + 3) lv (.ref (z_ad (z_g C) (8 * j + 3)) :: st)) : z_W C σ pc lv (.ref (z_ad (z_g C) (8 * j)) :: st) := z_getf hx (z_lt0 (z_ok_sd hx) (by omega)) (z_ka0 (z_ok_sd hx) hj _) rfl z_inX2 3 (by decide) hw rfl rfl hd kk
theorem gf_X2_ends (hx : z_ok C cc own 0) {idx : Nat} (hw : Cond.fieldLink own idx RX2 "ends" "[I" ∈ z_ws) {j : Nat} (hj : j < 6) (hd : decode cc pc = .ok (.getfield idx, 3)) (kk : z_W C σ (pc + 3) lv (.ref (z_ad (z_g C) (8 * j + 4)) :: st)) : z_W C σ pc lv (.ref (z_ad (z_g C) (8 * j)) :: st) := z_getf hx (z_lt0 (z_ok_sd hx) (by omega)) (z_ka0 (z_ok_sd hx) hj _) rfl z_inX2 4 (by decide) hw rfl rfl hd kk
theorem gf_X2_doubts (hx : z_ok C cc own 0) {idx : Nat} (hw : Cond.fieldLink own idx RX2 "doubts" "[I" ∈ z_ws) {j : Nat} (hj : j < 6) (hd : decode cc pc = .ok (.getfield idx, 3)) (kk : z_W C σ (pc + 3) lv (.ref (z_ad (z_g C) (8 * j + 5)) :: st)) : z_W C σ pc lv (.ref (z_ad (z_g C) (8 * j)) :: st) := z_getf hx (z_lt0 (z_ok_sd hx) (by omega)) (z_ka0 (z_ok_sd hx) hj _) rfl z_inX2 5 (by decide) hw rfl rfl hd kk
theorem gf_X2_held (hx : z_ok C cc own 0) {idx : Nat} (hw : Cond.fieldLink own idx RX2 "held" "[Z" ∈ z_ws) {j : Nat} (hj : j < 6) (hd : decode cc pc = .ok (.getfield idx, 3)) (kk : z_W C σ (pc + 3) lv (.ref (z_ad (z_g C) (8 * j + 6)) :: st)) : z_W C σ pc lv (.ref (z_ad (z_g C) (8 * j)) :: st) := z_getf hx (z_lt0 (z_ok_sd hx) (by omega)) (z_ka0 (z_ok_sd hx) hj _) rfl z_inX2 6 (by decide) hw rfl rfl hd kk
theorem gf_X2_marks (hx : z_ok C cc own 0) {idx : Nat} (hw : Cond.fieldLink own idx RX2 "marks" "I" ∈ z_ws) {j : Nat} (hj : j < 6) (hd : decode cc pc = .ok (.getfield idx, 3)) (kk : z_W C σ (pc + 3) lv (.int (zi (σ (8 * j) 7)) :: st)) : z_W C σ pc lv (.ref (z_ad (z_g C) (8 * j)) :: st) := z_getf hx (z_lt0 (z_ok_sd hx) (by omega)) (z_ka0 (z_ok_sd hx) hj _) rfl z_inX2 7 (by decide) hw rfl rfl hd kk
theorem pf_X2_marks (hx : z_ok C cc own 0) {idx : Nat} (hw : Cond.fieldLink own idx RX2 "marks" "I" ∈ z_ws) {j : Nat} (hj : j < 6) {v : Int} {K : zS → Option α} (hd : decode cc pc = .ok (.putfield idx, 3)) (h : z_put σ (8 * j) 7 v K = some r) (kk : ∀ σ1, K σ1 = some r → z_W C σ1 (pc + 3) lv st) : z_W C σ pc lv (.int (zi v) :: .ref (z_ad (z_g C) (8 * j)) :: st) := z_putf hx (z_lt0 (z_ok_sd hx) (by omega)) (fun f => [.ref (z_ad (z_g C) (8 * j + 1)), .int (zi (f 1)), .ref (z_ad (z_g C) (8 * j + 2)), .ref (z_ad (z_g C) (8 * j + 3)), .ref (z_ad (z_g C) (8 * j + 4)), .ref (z_ad (z_g C) (8 * j + 5)), .ref (z_ad (z_g C) (8 * j + 6)), .int (zi (f 7)), .ref (z_ad (z_g C) (8 * j + 7))]) (z_ka0 (z_ok_sd hx) hj) rfl z_inX2 tyX2 tyX2_ok nmX2 7 (by decide) hw rfl rfl rfl (fun _ => by simp) (fun f => by simp) rfl hd h kk
theorem gf_X2_settings (hx : z_ok C cc own 0) {idx : Nat} (hw : Cond.fieldLink own idx RX2 "settings" "[I" ∈ z_ws) {j : Nat} (hj : j < 6) (hd : decode cc pc = .ok (.getfield idx, 3)) (kk : z_W C σ (pc + 3) lv (.ref (z_ad (z_g C) (8 * j + 7)) :: st)) : z_W C σ pc lv (.ref (z_ad (z_g C) (8 * j)) :: st) := z_getf hx (z_lt0 (z_ok_sd hx) (by omega)) (z_ka0 (z_ok_sd hx) hj _) rfl z_inX2 8 (by decide) hw rfl rfl hd kk
theorem gf_X3_sources (hx : z_ok C cc own 0) {idx : Nat} (hw : Cond.fieldLink own idx RX3 "sources" "[I" ∈ z_ws) (hd : decode cc pc = .ok (.getfield idx, 3)) (kk : z_W C σ (pc + 3) lv (.ref (z_ad (z_g C) 55) :: st)) : z_W C σ pc lv (.ref (z_ad (z_g C) 54) :: st) := z_getf hx (z_lt0 (z_ok_sd hx) (by omega)) (z_kb54 (z_ok_sd hx) _) rfl z_inX3 0 (by decide) hw rfl rfl hd kk
theorem gf_X3_levels (hx : z_ok C cc own 0) {idx : Nat} (hw : Cond.fieldLink own idx RX3 "levels" "[I" ∈ z_ws) (hd : decode cc pc = .ok (.getfield idx, 3)) (kk : z_W C σ (pc + 3) lv (.ref (z_ad (z_g C) 56) :: st)) : z_W C σ pc lv (.ref (z_ad (z_g C) 54) :: st) := z_getf hx (z_lt0 (z_ok_sd hx) (by omega)) (z_kb54 (z_ok_sd hx) _) rfl z_inX3 1 (by decide) hw rfl rfl hd kk
theorem gf_X3_count (hx : z_ok C cc own 0) {idx : Nat} (hw : Cond.fieldLink own idx RX3 "count" "I" ∈ z_ws) (hd : decode cc pc = .ok (.getfield idx, 3)) (kk : z_W C σ (pc + 3) lv (.int (zi (σ 54 2)) :: st)) : z_W C σ pc lv (.ref (z_ad (z_g C) 54) :: st) := z_getf hx (z_lt0 (z_ok_sd hx) (by omega)) (z_kb54 (z_ok_sd hx) _) rfl z_inX3 2 (by decide) hw rfl rfl hd kk
theorem pf_X3_count (hx : z_ok C cc own 0) {idx : Nat} (hw : Cond.fieldLink own idx RX3 "count" "I" ∈ z_ws) {v : Int} {K : zS → Option α} (hd : decode cc pc = .ok (.putfield idx, 3)) (h : z_put σ 54 2 v K = some r) (kk : ∀ σ1, K σ1 = some r → z_W C σ1 (pc + 3) lv st) : z_W C σ pc lv (.int (zi v) :: .ref (z_ad (z_g C) 54) :: st) := z_putf hx (z_lt0 (z_ok_sd hx) (by omega)) (fun f => [.ref (z_ad (z_g C) 55), .ref (z_ad (z_g C) 56), .int (zi (f 2)), .ref (z_ad (z_g C) 57), .int (zi (f 4)), .int (zi (f 5)), .ref (z_ad (z_g C) 58)]) (z_kb54 (z_ok_sd hx)) rfl z_inX3 tyX3 tyX3_ok nmX3 2 (by decide) hw rfl rfl rfl (fun _ => by simp) (fun f => by simp) rfl hd h kk
theorem gf_X3_room (hx : z_ok C cc own 0) {idx : Nat} (hw : Cond.fieldLink own idx RX3 "room" "[I" ∈ z_ws) (hd : decode cc pc = .ok (.getfield idx, 3)) (kk : z_W C σ (pc + 3) lv (.ref (z_ad (z_g C) 57) :: st)) : z_W C σ pc lv (.ref (z_ad (z_g C) 54) :: st) := z_getf hx (z_lt0 (z_ok_sd hx) (by omega)) (z_kb54 (z_ok_sd hx) _) rfl z_inX3 3 (by decide) hw rfl rfl hd kk
theorem gf_X3_roomFrames (hx : z_ok C cc own 0) {idx : Nat} (hw : Cond.fieldLink own idx RX3 "roomFrames" "I" ∈ z_ws) (hd : decode cc pc = .ok (.getfield idx, 3)) (kk : z_W C σ (pc + 3) lv (.int (zi (σ 54 4)) :: st)) : z_W C σ pc lv (.ref (z_ad (z_g C) 54) :: st) := z_getf hx (z_lt0 (z_ok_sd hx) (by omega)) (z_kb54 (z_ok_sd hx) _) rfl z_inX3 4 (by decide) hw rfl rfl hd kk
theorem pf_X3_roomFrames (hx : z_ok C cc own 0) {idx : Nat} (hw : Cond.fieldLink own idx RX3 "roomFrames" "I" ∈ z_ws) {v : Int} {K : zS → Option α} (hd : decode cc pc = .ok (.putfield idx, 3)) (h : z_put σ 54 4 v K = some r) (kk : ∀ σ1, K σ1 = some r → z_W C σ1 (pc + 3) lv st) : z_W C σ pc lv (.int (zi v) :: .ref (z_ad (z_g C) 54) :: st) := z_putf hx (z_lt0 (z_ok_sd hx) (by omega)) (fun f => [.ref (z_ad (z_g C) 55), .ref (z_ad (z_g C) 56), .int (zi (f 2)), .ref (z_ad (z_g C) 57), .int (zi (f 4)), .int (zi (f 5)), .ref (z_ad (z_g C) 58)]) (z_kb54 (z_ok_sd hx)) rfl z_inX3 tyX3 tyX3_ok nmX3 4 (by decide) hw rfl rfl rfl (fun _ => by simp) (fun f => by simp) rfl hd h kk
theorem gf_X3_roomPlace (hx : z_ok C cc own 0) {idx : Nat} (hw : Cond.fieldLink own idx RX3 "roomPlace" "I" ∈ z_ws) (hd : decode cc pc = .ok (.getfield idx, 3)) (kk : z_W C σ (pc + 3) lv (.int (zi (σ 54 5)) :: st)) : z_W C σ pc lv (.ref (z_ad (z_g C) 54) :: st) := z_getf hx (z_lt0 (z_ok_sd hx) (by omega)) (z_kb54 (z_ok_sd hx) _) rfl z_inX3 5 (by decide) hw rfl rfl hd kk
theorem pf_X3_roomPlace (hx : z_ok C cc own 0) {idx : Nat} (hw : Cond.fieldLink own idx RX3 "roomPlace" "I" ∈ z_ws) {v : Int} {K : zS → Option α} (hd : decode cc pc = .ok (.putfield idx, 3)) (h : z_put σ 54 5 v K = some r) (kk : ∀ σ1, K σ1 = some r → z_W C σ1 (pc + 3) lv st) : z_W C σ pc lv (.int (zi v) :: .ref (z_ad (z_g C) 54) :: st) := z_putf hx (z_lt0 (z_ok_sd hx) (by omega)) (fun f => [.ref (z_ad (z_g C) 55), .ref (z_ad (z_g C) 56), .int (zi (f 2)), .ref (z_ad (z_g C) 57), .int (zi (f 4)), .int (zi (f 5)), .ref (z_ad (z_g C) 58)]) (z_kb54 (z_ok_sd hx)) rfl z_inX3 tyX3 tyX3_ok nmX3 5 (by decide) hw rfl rfl rfl (fun _ => by simp) (fun f => by simp) rfl hd h kk
theorem gf_X3_noisy (hx : z_ok C cc own 0) {idx : Nat} (hw : Cond.fieldLink own idx RX3 "noisy" "[Z" ∈ z_ws) (hd : decode cc pc = .ok (.getfield idx, 3)) (kk : z_W C σ (pc + 3) lv (.ref (z_ad (z_g C) 58) :: st)) : z_W C σ pc lv (.ref (z_ad (z_g C) 54) :: st) := z_getf hx (z_lt0 (z_ok_sd hx) (by omega)) (z_kb54 (z_ok_sd hx) _) rfl z_inX3 6 (by decide) hw rfl rfl hd kk
theorem gf_X4_draft (hx : z_ok C cc own 0) {idx : Nat} (hw : Cond.fieldLink own idx RX4 "draft" "LSpeechCleaner$Recording;" ∈ z_ws) (hd : decode cc pc = .ok (.getfield idx, 3)) (kk : z_W C σ (pc + 3) lv (.ref (z_ad (z_g C) 40) :: st)) : z_W C σ pc lv (.ref (z_ad (z_g C) 59) :: st) := z_getf hx (z_lt0 (z_ok_sd hx) (by omega)) (z_kb59 (z_ok_sd hx) _) rfl z_inX4 0 (by decide) hw rfl rfl hd kk
theorem gf_X4_stage (hx : z_ok C cc own 0) {idx : Nat} (hw : Cond.fieldLink own idx RX4 "stage" "I" ∈ z_ws) (hd : decode cc pc = .ok (.getfield idx, 3)) (kk : z_W C σ (pc + 3) lv (.int (zi (σ 59 1)) :: st)) : z_W C σ pc lv (.ref (z_ad (z_g C) 59) :: st) := z_getf hx (z_lt0 (z_ok_sd hx) (by omega)) (z_kb59 (z_ok_sd hx) _) rfl z_inX4 1 (by decide) hw rfl rfl hd kk
theorem pf_X4_stage (hx : z_ok C cc own 0) {idx : Nat} (hw : Cond.fieldLink own idx RX4 "stage" "I" ∈ z_ws) {v : Int} {K : zS → Option α} (hd : decode cc pc = .ok (.putfield idx, 3)) (h : z_put σ 59 1 v K = some r) (kk : ∀ σ1, K σ1 = some r → z_W C σ1 (pc + 3) lv st) : z_W C σ pc lv (.int (zi v) :: .ref (z_ad (z_g C) 59) :: st) := z_putf hx (z_lt0 (z_ok_sd hx) (by omega)) (fun f => [.ref (z_ad (z_g C) 40), .int (zi (f 1)), .int (zi (f 2)), .int (zi (f 3)), .int (zi (f 4)), .int (zi (f 5)), .int (zi (f 6))]) (z_kb59 (z_ok_sd hx)) rfl z_inX4 tyX4 tyX4_ok nmX4 1 (by decide) hw rfl rfl rfl (fun _ => by simp) (fun f => by simp) rfl hd h kk
theorem gf_X4_kind (hx : z_ok C cc own 0) {idx : Nat} (hw : Cond.fieldLink own idx RX4 "kind" "I" ∈ z_ws) (hd : decode cc pc = .ok (.getfield idx, 3)) (kk : z_W C σ (pc + 3) lv (.int (zi (σ 59 2)) :: st)) : z_W C σ pc lv (.ref (z_ad (z_g C) 59) :: st) := z_getf hx (z_lt0 (z_ok_sd hx) (by omega)) (z_kb59 (z_ok_sd hx) _) rfl z_inX4 2 (by decide) hw rfl rfl hd kk
theorem pf_X4_kind (hx : z_ok C cc own 0) {idx : Nat} (hw : Cond.fieldLink own idx RX4 "kind" "I" ∈ z_ws) {v : Int} {K : zS → Option α} (hd : decode cc pc = .ok (.putfield idx, 3)) (h : z_put σ 59 2 v K = some r) (kk : ∀ σ1, K σ1 = some r → z_W C σ1 (pc + 3) lv st) : z_W C σ pc lv (.int (zi v) :: .ref (z_ad (z_g C) 59) :: st) := z_putf hx (z_lt0 (z_ok_sd hx) (by omega)) (fun f => [.ref (z_ad (z_g C) 40), .int (zi (f 1)), .int (zi (f 2)), .int (zi (f 3)), .int (zi (f 4)), .int (zi (f 5)), .int (zi (f 6))]) (z_kb59 (z_ok_sd hx)) rfl z_inX4 tyX4 tyX4_ok nmX4 2 (by decide) hw rfl rfl rfl (fun _ => by simp) (fun f => by simp) rfl hd h kk
theorem gf_X4_first (hx : z_ok C cc own 0) {idx : Nat} (hw : Cond.fieldLink own idx RX4 "first" "I" ∈ z_ws) (hd : decode cc pc = .ok (.getfield idx, 3)) (kk : z_W C σ (pc + 3) lv (.int (zi (σ 59 3)) :: st)) : z_W C σ pc lv (.ref (z_ad (z_g C) 59) :: st) := z_getf hx (z_lt0 (z_ok_sd hx) (by omega)) (z_kb59 (z_ok_sd hx) _) rfl z_inX4 3 (by decide) hw rfl rfl hd kk
theorem pf_X4_first (hx : z_ok C cc own 0) {idx : Nat} (hw : Cond.fieldLink own idx RX4 "first" "I" ∈ z_ws) {v : Int} {K : zS → Option α} (hd : decode cc pc = .ok (.putfield idx, 3)) (h : z_put σ 59 3 v K = some r) (kk : ∀ σ1, K σ1 = some r → z_W C σ1 (pc + 3) lv st) : z_W C σ pc lv (.int (zi v) :: .ref (z_ad (z_g C) 59) :: st) := z_putf hx (z_lt0 (z_ok_sd hx) (by omega)) (fun f => [.ref (z_ad (z_g C) 40), .int (zi (f 1)), .int (zi (f 2)), .int (zi (f 3)), .int (zi (f 4)), .int (zi (f 5)), .int (zi (f 6))]) (z_kb59 (z_ok_sd hx)) rfl z_inX4 tyX4 tyX4_ok nmX4 3 (by decide) hw rfl rfl rfl (fun _ => by simp) (fun f => by simp) rfl hd h kk
theorem gf_X4_doubt (hx : z_ok C cc own 0) {idx : Nat} (hw : Cond.fieldLink own idx RX4 "doubt" "I" ∈ z_ws) (hd : decode cc pc = .ok (.getfield idx, 3)) (kk : z_W C σ (pc + 3) lv (.int (zi (σ 59 4)) :: st)) : z_W C σ pc lv (.ref (z_ad (z_g C) 59) :: st) := z_getf hx (z_lt0 (z_ok_sd hx) (by omega)) (z_kb59 (z_ok_sd hx) _) rfl z_inX4 4 (by decide) hw rfl rfl hd kk
theorem pf_X4_doubt (hx : z_ok C cc own 0) {idx : Nat} (hw : Cond.fieldLink own idx RX4 "doubt" "I" ∈ z_ws) {v : Int} {K : zS → Option α} (hd : decode cc pc = .ok (.putfield idx, 3)) (h : z_put σ 59 4 v K = some r) (kk : ∀ σ1, K σ1 = some r → z_W C σ1 (pc + 3) lv st) : z_W C σ pc lv (.int (zi v) :: .ref (z_ad (z_g C) 59) :: st) := z_putf hx (z_lt0 (z_ok_sd hx) (by omega)) (fun f => [.ref (z_ad (z_g C) 40), .int (zi (f 1)), .int (zi (f 2)), .int (zi (f 3)), .int (zi (f 4)), .int (zi (f 5)), .int (zi (f 6))]) (z_kb59 (z_ok_sd hx)) rfl z_inX4 tyX4 tyX4_ok nmX4 4 (by decide) hw rfl rfl rfl (fun _ => by simp) (fun f => by simp) rfl hd h kk
theorem gf_X4_doubtDigits (hx : z_ok C cc own 0) {idx : Nat} (hw : Cond.fieldLink own idx RX4 "doubtDigits" "I" ∈ z_ws) (hd : decode cc pc = .ok (.getfield idx, 3)) (kk : z_W C σ (pc + 3) lv (.int (zi (σ 59 5)) :: st)) : z_W C σ pc lv (.ref (z_ad (z_g C) 59) :: st) := z_getf hx (z_lt0 (z_ok_sd hx) (by omega)) (z_kb59 (z_ok_sd hx) _) rfl z_inX4 5 (by decide) hw rfl rfl hd kk
theorem pf_X4_doubtDigits (hx : z_ok C cc own 0) {idx : Nat} (hw : Cond.fieldLink own idx RX4 "doubtDigits" "I" ∈ z_ws) {v : Int} {K : zS → Option α} (hd : decode cc pc = .ok (.putfield idx, 3)) (h : z_put σ 59 5 v K = some r) (kk : ∀ σ1, K σ1 = some r → z_W C σ1 (pc + 3) lv st) : z_W C σ pc lv (.int (zi v) :: .ref (z_ad (z_g C) 59) :: st) := z_putf hx (z_lt0 (z_ok_sd hx) (by omega)) (fun f => [.ref (z_ad (z_g C) 40), .int (zi (f 1)), .int (zi (f 2)), .int (zi (f 3)), .int (zi (f 4)), .int (zi (f 5)), .int (zi (f 6))]) (z_kb59 (z_ok_sd hx)) rfl z_inX4 tyX4 tyX4_ok nmX4 5 (by decide) hw rfl rfl rfl (fun _ => by simp) (fun f => by simp) rfl hd h kk
theorem gf_X4_wrongDoubtPlace (hx : z_ok C cc own 0) {idx : Nat} (hw : Cond.fieldLink own idx RX4 "wrongDoubtPlace" "I" ∈ z_ws) (hd : decode cc pc = .ok (.getfield idx, 3)) (kk : z_W C σ (pc + 3) lv (.int (zi (σ 59 6)) :: st)) : z_W C σ pc lv (.ref (z_ad (z_g C) 59) :: st) := z_getf hx (z_lt0 (z_ok_sd hx) (by omega)) (z_kb59 (z_ok_sd hx) _) rfl z_inX4 6 (by decide) hw rfl rfl hd kk
theorem pf_X4_wrongDoubtPlace (hx : z_ok C cc own 0) {idx : Nat} (hw : Cond.fieldLink own idx RX4 "wrongDoubtPlace" "I" ∈ z_ws) {v : Int} {K : zS → Option α} (hd : decode cc pc = .ok (.putfield idx, 3)) (h : z_put σ 59 6 v K = some r) (kk : ∀ σ1, K σ1 = some r → z_W C σ1 (pc + 3) lv st) : z_W C σ pc lv (.int (zi v) :: .ref (z_ad (z_g C) 59) :: st) := z_putf hx (z_lt0 (z_ok_sd hx) (by omega)) (fun f => [.ref (z_ad (z_g C) 40), .int (zi (f 1)), .int (zi (f 2)), .int (zi (f 3)), .int (zi (f 4)), .int (zi (f 5)), .int (zi (f 6))]) (z_kb59 (z_ok_sd hx)) rfl z_inX4 tyX4 tyX4_ok nmX4 6 (by decide) hw rfl rfl rfl (fun _ => by simp) (fun f => by simp) rfl hd h kk
theorem gf_X5_buffer (hx : z_ok C cc own 0) {idx : Nat} (hw : Cond.fieldLink own idx RX5 "buffer" "[I" ∈ z_ws) (hd : decode cc pc = .ok (.getfield idx, 3)) (kk : z_W C σ (pc + 3) lv (.ref (z_ad (z_g C) 63) :: st)) : z_W C σ pc lv (.ref (z_ad (z_g C) 62) :: st) := z_getf hx (z_lt0 (z_ok_sd hx) (by omega)) (z_kb62 (z_ok_sd hx) _) rfl z_inX5 0 (by decide) hw rfl rfl hd kk
theorem gf_X5_characters (hx : z_ok C cc own 0) {idx : Nat} (hw : Cond.fieldLink own idx RX5 "characters" "I" ∈ z_ws) (hd : decode cc pc = .ok (.getfield idx, 3)) (kk : z_W C σ (pc + 3) lv (.int (zi (σ 62 1)) :: st)) : z_W C σ pc lv (.ref (z_ad (z_g C) 62) :: st) := z_getf hx (z_lt0 (z_ok_sd hx) (by omega)) (z_kb62 (z_ok_sd hx) _) rfl z_inX5 1 (by decide) hw rfl rfl hd kk
theorem pf_X5_characters (hx : z_ok C cc own 0) {idx : Nat} (hw : Cond.fieldLink own idx RX5 "characters" "I" ∈ z_ws) {v : Int} {K : zS → Option α} (hd : decode cc pc = .ok (.putfield idx, 3)) (h : z_put σ 62 1 v K = some r) (kk : ∀ σ1, K σ1 = some r → z_W C σ1 (pc + 3) lv st) : z_W C σ pc lv (.int (zi v) :: .ref (z_ad (z_g C) 62) :: st) := z_putf hx (z_lt0 (z_ok_sd hx) (by omega)) (fun f => [.ref (z_ad (z_g C) 63), .int (zi (f 1)), .ref (z_ad (z_g C) 0), .ref (z_ad (z_g C) 60), .ref (z_ad (z_g C) 59), .ref (z_ad (z_g C) 48), .ref (z_ad (z_g C) 54)]) (z_kb62 (z_ok_sd hx)) rfl z_inX5 tyX5 tyX5_ok nmX5 1 (by decide) hw rfl rfl rfl (fun _ => by simp) (fun f => by simp) rfl hd h kk
theorem gf_X5_recording (hx : z_ok C cc own 0) {idx : Nat} (hw : Cond.fieldLink own idx RX5 "recording" "LSpeechCleaner$Recording;" ∈ z_ws) (hd : decode cc pc = .ok (.getfield idx, 3)) (kk : z_W C σ (pc + 3) lv (.ref (z_ad (z_g C) 0) :: st)) : z_W C σ pc lv (.ref (z_ad (z_g C) 62) :: st) := z_getf hx (z_lt0 (z_ok_sd hx) (by omega)) (z_kb62 (z_ok_sd hx) _) rfl z_inX5 2 (by decide) hw rfl rfl hd kk
theorem gf_X5_history (hx : z_ok C cc own 0) {idx : Nat} (hw : Cond.fieldLink own idx RX5 "history" "LSpeechCleaner$History;" ∈ z_ws) (hd : decode cc pc = .ok (.getfield idx, 3)) (kk : z_W C σ (pc + 3) lv (.ref (z_ad (z_g C) 60) :: st)) : z_W C σ pc lv (.ref (z_ad (z_g C) 62) :: st) := z_getf hx (z_lt0 (z_ok_sd hx) (by omega)) (z_kb62 (z_ok_sd hx) _) rfl z_inX5 3 (by decide) hw rfl rfl hd kk
theorem gf_X5_reader (hx : z_ok C cc own 0) {idx : Nat} (hw : Cond.fieldLink own idx RX5 "reader" "LSpeechCleaner$TextReader;" ∈ z_ws) (hd : decode cc pc = .ok (.getfield idx, 3)) (kk : z_W C σ (pc + 3) lv (.ref (z_ad (z_g C) 59) :: st)) : z_W C σ pc lv (.ref (z_ad (z_g C) 62) :: st) := z_getf hx (z_lt0 (z_ok_sd hx) (by omega)) (z_kb62 (z_ok_sd hx) _) rfl z_inX5 4 (by decide) hw rfl rfl hd kk
theorem gf_X5_cutList (hx : z_ok C cc own 0) {idx : Nat} (hw : Cond.fieldLink own idx RX5 "cutList" "LSpeechCleaner$CutList;" ∈ z_ws) (hd : decode cc pc = .ok (.getfield idx, 3)) (kk : z_W C σ (pc + 3) lv (.ref (z_ad (z_g C) 48) :: st)) : z_W C σ pc lv (.ref (z_ad (z_g C) 62) :: st) := z_getf hx (z_lt0 (z_ok_sd hx) (by omega)) (z_kb62 (z_ok_sd hx) _) rfl z_inX5 5 (by decide) hw rfl rfl hd kk
theorem gf_X5_result (hx : z_ok C cc own 0) {idx : Nat} (hw : Cond.fieldLink own idx RX5 "result" "LSpeechCleaner$Result;" ∈ z_ws) (hd : decode cc pc = .ok (.getfield idx, 3)) (kk : z_W C σ (pc + 3) lv (.ref (z_ad (z_g C) 54) :: st)) : z_W C σ pc lv (.ref (z_ad (z_g C) 62) :: st) := z_getf hx (z_lt0 (z_ok_sd hx) (by omega)) (z_kb62 (z_ok_sd hx) _) rfl z_inX5 6 (by decide) hw rfl rfl hd kk
theorem z_aald (hx : z_ok C cc own 0) {i : Int} {A : Option α} (hd : decode cc pc = .ok (.aaload, 1)) (h : (if (0 ≤ i ∧ i < 4) ∧ 0 ≤ σ 61 i ∧ σ 61 i < 6 then A else none) = some r) (kk : A = some r → (σ 61 i).toNat < 6 → z_W C σ (pc + 1) lv (.ref (z_ad (z_g C) (8 * (σ 61 i).toNat)) :: st)) : z_W C σ pc lv (.int (zi i) :: .ref (z_ad (z_g C) 61) :: st) := by
  obtain ⟨⟨⟨i0, i1⟩, v0, v1⟩, h⟩ := z_gd h
  have kk := kk h (by omega)
  have hsd := z_ok_sd hx
  have hk : 61 < z_N (z_g C) := z_lt0 hsd (by decide)
  have hm := z_kb61 hsd (σ 61)
  obtain ⟨p, l, e, R, s, m, args, below, meth, c, Q, cells, slots, A, H0, nL, g⟩ := C
  intro H locs ls hP hS hl
  have he := z_wd_get (mk := z_mk g) (ad := g.2.1) (σ := σ) hk
  rw [hm] at he
  obtain ⟨h1, h2, h3, h4, h5, h6, h7, h8, h9, h10, h11, h12⟩ := hx
  refine va_aldq h1 h2 h6 hP 61 2 he rfl (zi_in i0 (by omega) (by omega)) hd ?_
  rw [zi_clamp i0 (by omega), Int.toNat_of_nonneg i0]
  exact kk H locs ls hP hS hl
theorem z_aast (hx : z_ok C cc own 0) {i : Int} {j : Nat} (hj : j < 6) {K : zS → Option α} (hd : decode cc pc = .ok (.aastore, 1)) (h : (if 0 ≤ i ∧ i < 4 then z_put σ 61 i (j : Nat) K else none) = some r) (kk : ∀ σ1, K σ1 = some r → z_W C σ1 (pc + 1) lv st) : z_W C σ pc lv (.ref (z_ad (z_g C) (8 * j)) :: .int (zi i) :: .ref (z_ad (z_g C) 61) :: st) := by
  obtain ⟨⟨i0, i1⟩, h⟩ := z_gd h
  have kk := kk _ h
  have hsd := z_ok_sd hx
  have hk : 61 < z_N (z_g C) := z_lt0 hsd (by decide)
  have hkj : 8 * j < z_N (z_g C) := z_lt0 hsd (by omega)
  have hm := z_kb61 hsd
  have hmj := z_ka0 hsd hj (σ (8 * j))
  obtain ⟨p, l, e, R, s, m, args, below, meth, c, Q, cells, slots, A, H0, nL, g⟩ := C
  intro H locs ls hP hS hl
  have he := z_wd_get (mk := z_mk g) (ad := g.2.1) (σ := σ) hk
  rw [hm] at he
  have hej := z_wd_get (mk := z_mk g) (ad := g.2.1) (σ := σ) hkj
  rw [hmj] at hej
  obtain ⟨h1, h2, h3, h4, h5, h6, h7, h8, h9, h10, h11, h12⟩ := hx
  refine va_astq h1 h2 h6 hP (h7 σ) hS 61 2 (8 * j) 2 (r := (RX2, TX2, 9)) he rfl hej rfl (zi_in i0 (by omega) (by omega)) hd (fun H1 locs1 hP1 hD1 hS1 => ?_)
  refine kk H1 locs1 ls ?_ hS1 hl
  have e0 : va_up (fun i : Nat => some (g.2.1 (8 * (σ 61 (i : Int)).toNat))) (zi i).toNatClampNeg (some (g.2.1 (8 * j))) = fun q : Nat => some (g.2.1 (8 * ((fun b : Int => if b = i then (j : Int) else σ 61 b) (q : Int)).toNat)) := by
    funext q
    rw [zi_clamp i0 (by omega)]
    simp only [va_up]
    by_cases h : q = i.toNat
    · rw [if_pos h, if_pos (by omega), Int.toNat_natCast]
    · rw [if_neg h, if_neg (by omega)]
  have e1 := z_wd_set (mk := z_mk g) (N := z_N g) (ad := g.2.1) (σ := σ) (τ := z_up σ 61 i (j : Nat)) (k := 61) (e := .inl (g.2.2.2.2.1, 4, .inr (.inr (.inr (.inr (va_up (fun i : Nat => some (g.2.1 (8 * (σ 61 (i : Int)).toNat))) (zi i).toNatClampNeg (some (g.2.1 (8 * j))))))))) (by rw [z_up_row, e0]; exact (hm (fun b : Int => if b = i then (j : Int) else σ 61 b)).symm) (fun a ha => z_up_ne σ 61 i (j : Nat) a ha)
  show va_P g.2.2.2.2.2 vwCl (z_wd (z_mk g) (z_N g) g.2.1 (z_up σ 61 i (j : Nat))) H1
  rw [← e1]
  exact hP1
end
