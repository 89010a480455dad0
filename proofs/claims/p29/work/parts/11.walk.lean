/-! walks, by program: ['X2'] -/
theorem dX2_copyMark_0 : decode cX2_copyMark 0 = .ok (.aload_n 0, 1) := by decide +kernel
theorem dX2_copyMark_1 : decode cX2_copyMark 1 = .ok (.getfield 19, 3) := by decide +kernel
theorem dX2_copyMark_4 : decode cX2_copyMark 4 = .ok (.iload_n 3, 1) := by decide +kernel
theorem dX2_copyMark_5 : decode cX2_copyMark 5 = .ok (.aload_n 1, 1) := by decide +kernel
theorem dX2_copyMark_6 : decode cX2_copyMark 6 = .ok (.getfield 19, 3) := by decide +kernel
theorem dX2_copyMark_9 : decode cX2_copyMark 9 = .ok (.iload_n 2, 1) := by decide +kernel
theorem dX2_copyMark_10 : decode cX2_copyMark 10 = .ok (.iaload, 1) := by decide +kernel
theorem dX2_copyMark_11 : decode cX2_copyMark 11 = .ok (.iastore, 1) := by decide +kernel
theorem dX2_copyMark_12 : decode cX2_copyMark 12 = .ok (.aload_n 0, 1) := by decide +kernel
theorem dX2_copyMark_13 : decode cX2_copyMark 13 = .ok (.getfield 22, 3) := by decide +kernel
theorem dX2_copyMark_16 : decode cX2_copyMark 16 = .ok (.iload_n 3, 1) := by decide +kernel
theorem dX2_copyMark_17 : decode cX2_copyMark 17 = .ok (.aload_n 1, 1) := by decide +kernel
theorem dX2_copyMark_18 : decode cX2_copyMark 18 = .ok (.getfield 22, 3) := by decide +kernel
theorem dX2_copyMark_21 : decode cX2_copyMark 21 = .ok (.iload_n 2, 1) := by decide +kernel
theorem dX2_copyMark_22 : decode cX2_copyMark 22 = .ok (.iaload, 1) := by decide +kernel
theorem dX2_copyMark_23 : decode cX2_copyMark 23 = .ok (.iastore, 1) := by decide +kernel
theorem dX2_copyMark_24 : decode cX2_copyMark 24 = .ok (.aload_n 0, 1) := by decide +kernel
theorem dX2_copyMark_25 : decode cX2_copyMark 25 = .ok (.getfield 25, 3) := by decide +kernel
theorem dX2_copyMark_28 : decode cX2_copyMark 28 = .ok (.iload_n 3, 1) := by decide +kernel
theorem dX2_copyMark_29 : decode cX2_copyMark 29 = .ok (.aload_n 1, 1) := by decide +kernel
theorem dX2_copyMark_30 : decode cX2_copyMark 30 = .ok (.getfield 25, 3) := by decide +kernel
theorem dX2_copyMark_33 : decode cX2_copyMark 33 = .ok (.iload_n 2, 1) := by decide +kernel
theorem dX2_copyMark_34 : decode cX2_copyMark 34 = .ok (.iaload, 1) := by decide +kernel
theorem dX2_copyMark_35 : decode cX2_copyMark 35 = .ok (.iastore, 1) := by decide +kernel
theorem dX2_copyMark_36 : decode cX2_copyMark 36 = .ok (.aload_n 0, 1) := by decide +kernel
theorem dX2_copyMark_37 : decode cX2_copyMark 37 = .ok (.getfield 28, 3) := by decide +kernel
theorem dX2_copyMark_40 : decode cX2_copyMark 40 = .ok (.iload_n 3, 1) := by decide +kernel
theorem dX2_copyMark_41 : decode cX2_copyMark 41 = .ok (.aload_n 1, 1) := by decide +kernel
theorem dX2_copyMark_42 : decode cX2_copyMark 42 = .ok (.getfield 28, 3) := by decide +kernel
theorem dX2_copyMark_45 : decode cX2_copyMark 45 = .ok (.iload_n 2, 1) := by decide +kernel
theorem dX2_copyMark_46 : decode cX2_copyMark 46 = .ok (.iaload, 1) := by decide +kernel
theorem dX2_copyMark_47 : decode cX2_copyMark 47 = .ok (.iastore, 1) := by decide +kernel
theorem dX2_copyMark_48 : decode cX2_copyMark 48 = .ok (.aload_n 0, 1) := by decide +kernel
theorem dX2_copyMark_49 : decode cX2_copyMark 49 = .ok (.getfield 31, 3) := by decide +kernel
theorem dX2_copyMark_52 : decode cX2_copyMark 52 = .ok (.iload_n 3, 1) := by decide +kernel
theorem dX2_copyMark_53 : decode cX2_copyMark 53 = .ok (.aload_n 1, 1) := by decide +kernel
theorem dX2_copyMark_54 : decode cX2_copyMark 54 = .ok (.getfield 31, 3) := by decide +kernel
theorem dX2_copyMark_57 : decode cX2_copyMark 57 = .ok (.iload_n 2, 1) := by decide +kernel
theorem dX2_copyMark_58 : decode cX2_copyMark 58 = .ok (.baload, 1) := by decide +kernel
theorem dX2_copyMark_59 : decode cX2_copyMark 59 = .ok (.bastore, 1) := by decide +kernel
theorem dX2_copyMark_60 : decode cX2_copyMark 60 = .ok (.return_, 1) := by decide +kernel
abbrev rm_X2_copyMark : Room := { frames := 0, cells := 0, slots := 0, locals := 0 }
theorem w_X2_copyMark {C : zC} (hx : z_ok C cX2_copyMark RX2 0) (hn : z_nL C = 4) (hR : z_R C = rm_X2_copyMark) {rr : Unit × zS} (hq : z_fin C none (z_QV (z_g C) rr.2)) {j : Nat} (hj : j < 6) {k : Nat} (hk : k < 6) (σ : zS) (x2 : Int) (x3 : Int) (h : f_X2_copyMark j k σ x2 x3 = some rr) : z_W C σ 0 [(0, .ref (z_ad (z_g C) (8 * j))), (1, .ref (z_ad (z_g C) (8 * k))), (2, .int (zi x2)), (3, .int (zi x3))] [] := by
  unfold f_X2_copyMark at h
  refine z_aload_n hx 0 dX2_copyMark_0 rfl ?_
  refine gf_X2_kinds hx wf_X2_19 hj dX2_copyMark_1 ?_
  refine z_iload_n hx 3 dX2_copyMark_4 rfl ?_
  refine z_aload_n hx 1 dX2_copyMark_5 rfl ?_
  refine gf_X2_kinds hx wf_X2_19 hk dX2_copyMark_6 ?_
  refine z_iload_n hx 2 dX2_copyMark_9 rfl ?_
  refine z_iald hx (n := 20) (z_lt0 (z_ok_sd hx) (by have := hk; omega)) (z_ka2 (z_ok_sd hx) hk _) rfl (by decide) dX2_copyMark_10 h (fun h => ?_)
  refine z_iast hx (n := 20) (z_lt0 (z_ok_sd hx) (by have := hj; omega)) (z_ka2 (z_ok_sd hx) hj) rfl (by decide) dX2_copyMark_11 h (fun σ1 h => ?_)
  refine z_aload_n hx 0 dX2_copyMark_12 rfl ?_
  refine gf_X2_firsts hx wf_X2_22 hj dX2_copyMark_13 ?_
  refine z_iload_n hx 3 dX2_copyMark_16 rfl ?_
  refine z_aload_n hx 1 dX2_copyMark_17 rfl ?_
  refine gf_X2_firsts hx wf_X2_22 hk dX2_copyMark_18 ?_
  refine z_iload_n hx 2 dX2_copyMark_21 rfl ?_
  refine z_iald hx (n := 20) (z_lt0 (z_ok_sd hx) (by have := hk; omega)) (z_ka3 (z_ok_sd hx) hk _) rfl (by decide) dX2_copyMark_22 h (fun h => ?_)
  refine z_iast hx (n := 20) (z_lt0 (z_ok_sd hx) (by have := hj; omega)) (z_ka3 (z_ok_sd hx) hj) rfl (by decide) dX2_copyMark_23 h (fun σ2 h => ?_)
  refine z_aload_n hx 0 dX2_copyMark_24 rfl ?_
  refine gf_X2_ends hx wf_X2_25 hj dX2_copyMark_25 ?_
  refine z_iload_n hx 3 dX2_copyMark_28 rfl ?_
  refine z_aload_n hx 1 dX2_copyMark_29 rfl ?_
  refine gf_X2_ends hx wf_X2_25 hk dX2_copyMark_30 ?_
  refine z_iload_n hx 2 dX2_copyMark_33 rfl ?_
  refine z_iald hx (n := 20) (z_lt0 (z_ok_sd hx) (by have := hk; omega)) (z_ka4 (z_ok_sd hx) hk _) rfl (by decide) dX2_copyMark_34 h (fun h => ?_)
  refine z_iast hx (n := 20) (z_lt0 (z_ok_sd hx) (by have := hj; omega)) (z_ka4 (z_ok_sd hx) hj) rfl (by decide) dX2_copyMark_35 h (fun σ3 h => ?_)
  refine z_aload_n hx 0 dX2_copyMark_36 rfl ?_
  refine gf_X2_doubts hx wf_X2_28 hj dX2_copyMark_37 ?_
  refine z_iload_n hx 3 dX2_copyMark_40 rfl ?_
  refine z_aload_n hx 1 dX2_copyMark_41 rfl ?_
  refine gf_X2_doubts hx wf_X2_28 hk dX2_copyMark_42 ?_
  refine z_iload_n hx 2 dX2_copyMark_45 rfl ?_
  refine z_iald hx (n := 20) (z_lt0 (z_ok_sd hx) (by have := hk; omega)) (z_ka5 (z_ok_sd hx) hk _) rfl (by decide) dX2_copyMark_46 h (fun h => ?_)
  refine z_iast hx (n := 20) (z_lt0 (z_ok_sd hx) (by have := hj; omega)) (z_ka5 (z_ok_sd hx) hj) rfl (by decide) dX2_copyMark_47 h (fun σ4 h => ?_)
  refine z_aload_n hx 0 dX2_copyMark_48 rfl ?_
  refine gf_X2_held hx wf_X2_31 hj dX2_copyMark_49 ?_
  refine z_iload_n hx 3 dX2_copyMark_52 rfl ?_
  refine z_aload_n hx 1 dX2_copyMark_53 rfl ?_
  refine gf_X2_held hx wf_X2_31 hk dX2_copyMark_54 ?_
  refine z_iload_n hx 2 dX2_copyMark_57 rfl ?_
  refine z_zald hx (n := 20) (z_lt0 (z_ok_sd hx) (by have := hk; omega)) (z_ka6 (z_ok_sd hx) hk _) rfl (by decide) dX2_copyMark_58 h (fun h => ?_)
  refine z_zast hx (n := 20) (z_lt0 (z_ok_sd hx) (by have := hj; omega)) (z_ka6 (z_ok_sd hx) hj) rfl (by decide) dX2_copyMark_59 h (fun σ5 h => ?_)
  cases h
  exact z_vret hx hq dX2_copyMark_60

theorem met_X2_copyMark (l : Launch) (g : zG) (hg : g.1 = 0) {j : Nat} (hj : j < 6) {k : Nat} (hk : k < 6) {σ : zS} {x2 : Int} {x3 : Int} {rr : Unit × zS} (h : f_X2_copyMark j k σ x2 x3 = some rr) : z_Met l yX2_copyMark cX2_copyMark 4 none rm_X2_copyMark g [.ref (z_ad (g) (8 * j)), .ref (z_ad (g) (8 * k)), .int (zi x2), .int (zi x3)] σ (z_QV g rr.2) := by
  refine z_enter (own := RX2) (sd := 0) (lv0 := [(0, .ref (z_ad (g) (8 * j))), (1, .ref (z_ad (g) (8 * k))), (2, .int (zi x2)), (3, .int (zi x3))]) (by decide) rfl (Nat.le_of_ble_eq_true rfl) hg rfl (fun C hx hl hgC hR hn hq => ?_)
  subst hgC
  refine z_sub [0, 1, 2, 3] rfl ?_
  exact w_X2_copyMark hx hn hR hq hj hk σ x2 x3 h
theorem dX2_copySound_0 : decode cX2_copySound 0 = .ok (.aload_n 0, 1) := by decide +kernel
theorem dX2_copySound_1 : decode cX2_copySound 1 = .ok (.aload_n 1, 1) := by decide +kernel
theorem dX2_copySound_2 : decode cX2_copySound 2 = .ok (.getfield 15, 3) := by decide +kernel
theorem dX2_copySound_5 : decode cX2_copySound 5 = .ok (.putfield 15, 3) := by decide +kernel
theorem dX2_copySound_8 : decode cX2_copySound 8 = .ok (.aload_n 1, 1) := by decide +kernel
theorem dX2_copySound_9 : decode cX2_copySound 9 = .ok (.getfield 9, 3) := by decide +kernel
theorem dX2_copySound_12 : decode cX2_copySound 12 = .ok (.iconst 0, 1) := by decide +kernel
theorem dX2_copySound_13 : decode cX2_copySound 13 = .ok (.aload_n 0, 1) := by decide +kernel
theorem dX2_copySound_14 : decode cX2_copySound 14 = .ok (.getfield 9, 3) := by decide +kernel
theorem dX2_copySound_17 : decode cX2_copySound 17 = .ok (.iconst 0, 1) := by decide +kernel
theorem dX2_copySound_18 : decode cX2_copySound 18 = .ok (.sipush 200, 3) := by decide +kernel
theorem dX2_copySound_21 : decode cX2_copySound 21 = .ok (.invokestatic 44, 3) := by decide +kernel
theorem dX2_copySound_24 : decode cX2_copySound 24 = .ok (.aload_n 0, 1) := by decide +kernel
theorem dX2_copySound_25 : decode cX2_copySound 25 = .ok (.aload_n 1, 1) := by decide +kernel
theorem dX2_copySound_26 : decode cX2_copySound 26 = .ok (.getfield 35, 3) := by decide +kernel
theorem dX2_copySound_29 : decode cX2_copySound 29 = .ok (.putfield 35, 3) := by decide +kernel
theorem dX2_copySound_32 : decode cX2_copySound 32 = .ok (.iconst 0, 1) := by decide +kernel
theorem dX2_copySound_33 : decode cX2_copySound 33 = .ok (.istore_n 2, 1) := by decide +kernel
theorem dX2_copySound_34 : decode cX2_copySound 34 = .ok (.iload_n 2, 1) := by decide +kernel
theorem dX2_copySound_35 : decode cX2_copySound 35 = .ok (.aload_n 0, 1) := by decide +kernel
theorem dX2_copySound_36 : decode cX2_copySound 36 = .ok (.getfield 35, 3) := by decide +kernel
theorem dX2_copySound_39 : decode cX2_copySound 39 = .ok (.if_icmp .ge 16, 3) := by decide +kernel
theorem dX2_copySound_42 : decode cX2_copySound 42 = .ok (.aload_n 0, 1) := by decide +kernel
theorem dX2_copySound_43 : decode cX2_copySound 43 = .ok (.aload_n 1, 1) := by decide +kernel
theorem dX2_copySound_44 : decode cX2_copySound 44 = .ok (.iload_n 2, 1) := by decide +kernel
theorem dX2_copySound_45 : decode cX2_copySound 45 = .ok (.iload_n 2, 1) := by decide +kernel
theorem dX2_copySound_46 : decode cX2_copySound 46 = .ok (.invokevirtual 54, 3) := by decide +kernel
theorem dX2_copySound_49 : decode cX2_copySound 49 = .ok (.iinc 2 1, 3) := by decide +kernel
theorem dX2_copySound_52 : decode cX2_copySound 52 = .ok (.goto (-18), 3) := by decide +kernel
theorem dX2_copySound_55 : decode cX2_copySound 55 = .ok (.return_, 1) := by decide +kernel
abbrev rm_X2_copySound : Room := { frames := 1, cells := 0, slots := 0, locals := 60 }
theorem w_X2_copySound_b34 {C : zC} (hx : z_ok C cX2_copySound RX2 0) (hn : z_nL C = 3) (hR : z_R C = rm_X2_copySound) {rr : Unit × zS} (hq : z_fin C none (z_QV (z_g C) rr.2)) {j : Nat} (hj : j < 6) {k : Nat} (hk : k < 6) {K34 : zS → Int → Option (Unit × zS)} (hK34 : ∀ (σ : zS) (x2 : Int) , K34 σ x2 = some rr → z_W C σ 34 [(0, .ref (z_ad (z_g C) (8 * j))), (1, .ref (z_ad (z_g C) (8 * k))), (2, .int (zi x2))] []) (σ : zS) (x2 : Int) (h : f_X2_copySound_b34 j k K34 σ x2 = some rr) : z_W C σ 34 [(0, .ref (z_ad (z_g C) (8 * j))), (1, .ref (z_ad (z_g C) (8 * k))), (2, .int (zi x2))] [] := by
  unfold f_X2_copySound_b34 at h
  refine z_iload_n hx 2 dX2_copySound_34 rfl ?_
  refine z_aload_n hx 0 dX2_copySound_35 rfl ?_
  refine gf_X2_marks hx wf_X2_35 hj dX2_copySound_36 ?_
  refine z_icmp_ge hx (tgt := 55) dX2_copySound_39 (by decide) h (fun h => h) (fun hc h => ?_) (fun hc h => ?_)
  · cases h
    exact z_vret hx hq dX2_copySound_55
  · refine z_aload_n hx 0 dX2_copySound_42 rfl ?_
    refine z_aload_n hx 1 dX2_copySound_43 rfl ?_
    refine z_iload_n hx 2 dX2_copySound_44 rfl ?_
    refine z_iload_n hx 2 dX2_copySound_45 rfl ?_
    obtain ⟨⟨⟩, σ1, h46, h⟩ := z_bind_some h
    refine z_callv hx (As := [.ref (z_ad (z_g C) (8 * k)), .int (zi x2), .int (zi x2)]) (k := 8 * j) (met_X2_copyMark (z_l C) (z_g C) (z_ok_sd hx) hj hk h46) (z_lt0 (z_ok_sd hx) (by have := hj; omega)) (z_ka0 (z_ok_sd hx) hj _) rfl rfl cv_X2_54 (z_room hR ⟨Nat.le_of_ble_eq_true rfl, Nat.le_of_ble_eq_true rfl⟩) ⟨rfl, rfl⟩ rfl rfl (Nat.le_of_ble_eq_true rfl) dX2_copySound_46 ?_
    refine z_iinc hx hn 2 (lv' := [(2, .int (zi (x2 + 1))), (0, .ref (z_ad (z_g C) (8 * j))), (1, .ref (z_ad (z_g C) (8 * k)))]) dX2_copySound_49 rfl (by decide) rfl ?_
    refine z_goto hx (tgt := 34) dX2_copySound_52 (by decide) ?_
    refine z_sub [1, 2, 0] rfl ?_
    exact hK34 σ1 (x2 + 1) h

theorem w_X2_copySound_l34 {C : zC} (hx : z_ok C cX2_copySound RX2 0) (hn : z_nL C = 3) (hR : z_R C = rm_X2_copySound) {rr : Unit × zS} (hq : z_fin C none (z_QV (z_g C) rr.2)) {j : Nat} (hj : j < 6) {k : Nat} (hk : k < 6) : ∀ (n : Nat) (σ : zS) (x2 : Int) (_ : f_X2_copySound_l34 j k n σ x2 = some rr), z_W C σ 34 [(0, .ref (z_ad (z_g C) (8 * j))), (1, .ref (z_ad (z_g C) (8 * k))), (2, .int (zi x2))] [] := by
  intro n
  induction n with
  | zero => intro σ x2 h; cases h
  | succ n ih =>
    intro σ x2 h
    exact w_X2_copySound_b34 hx hn hR hq hj hk ih σ x2 h
theorem w_X2_copySound {C : zC} (hx : z_ok C cX2_copySound RX2 0) (hn : z_nL C = 3) (hR : z_R C = rm_X2_copySound) {rr : Unit × zS} (hq : z_fin C none (z_QV (z_g C) rr.2)) {j : Nat} (hj : j < 6) {k : Nat} (hk : k < 6) (σ : zS) (h : f_X2_copySound j k σ = some rr) : z_W C σ 0 [(0, .ref (z_ad (z_g C) (8 * j))), (1, .ref (z_ad (z_g C) (8 * k)))] [] := by
  unfold f_X2_copySound at h
  refine z_aload_n hx 0 dX2_copySound_0 rfl ?_
  refine z_aload_n hx 1 dX2_copySound_1 rfl ?_
  refine gf_X2_frames hx wf_X2_15 hk dX2_copySound_2 ?_
  refine pf_X2_frames hx wf_X2_15 hj dX2_copySound_5 h (fun σ1 h => ?_)
  refine z_aload_n hx 1 dX2_copySound_8 rfl ?_
  refine gf_X2_levels hx wf_X2_9 hk dX2_copySound_9 ?_
  refine z_iconst hx (n := 0) dX2_copySound_12 ?_
  refine z_aload_n hx 0 dX2_copySound_13 rfl ?_
  refine gf_X2_levels hx wf_X2_9 hj dX2_copySound_14 ?_
  refine z_iconst hx (n := 0) dX2_copySound_17 ?_
  refine z_sipush hx (n := 200) dX2_copySound_18 rfl ?_
  refine z_copyi hx (n1 := 200) (n2 := 200) (z_lt0 (z_ok_sd hx) (by have := hk; omega)) (z_lt0 (z_ok_sd hx) (by have := hj; omega)) (z_ka1 (z_ok_sd hx) hk _) (z_ka1 (z_ok_sd hx) hj) rfl rfl (by decide) (by decide) wm_X2_44 wna_ac wst_ac wi_J10 (z_room hR ⟨Nat.le_of_ble_eq_true rfl, Nat.le_of_ble_eq_true rfl⟩) (Nat.le_of_ble_eq_true rfl) dX2_copySound_21 h (fun σ2 h => ?_)
  refine z_aload_n hx 0 dX2_copySound_24 rfl ?_
  refine z_aload_n hx 1 dX2_copySound_25 rfl ?_
  refine gf_X2_marks hx wf_X2_35 hk dX2_copySound_26 ?_
  refine pf_X2_marks hx wf_X2_35 hj dX2_copySound_29 h (fun σ3 h => ?_)
  refine z_iconst hx (n := 0) dX2_copySound_32 ?_
  refine z_istore_n hx hn (lv' := [(2, .int (zi 0)), (0, .ref (z_ad (z_g C) (8 * j))), (1, .ref (z_ad (z_g C) (8 * k)))]) dX2_copySound_33 (by decide) rfl ?_
  refine z_sub [1, 2, 0] rfl ?_
  exact w_X2_copySound_l34 hx hn hR hq hj hk z_fuel σ3 0 h

theorem met_X2_copySound (l : Launch) (g : zG) (hg : g.1 = 0) {j : Nat} (hj : j < 6) {k : Nat} (hk : k < 6) {σ : zS} {rr : Unit × zS} (h : f_X2_copySound j k σ = some rr) : z_Met l yX2_copySound cX2_copySound 3 none rm_X2_copySound g [.ref (z_ad (g) (8 * j)), .ref (z_ad (g) (8 * k))] σ (z_QV g rr.2) := by
  refine z_enter (own := RX2) (sd := 0) (lv0 := [(0, .ref (z_ad (g) (8 * j))), (1, .ref (z_ad (g) (8 * k)))]) (by decide) rfl (Nat.le_of_ble_eq_true rfl) hg rfl (fun C hx hl hgC hR hn hq => ?_)
  subst hgC
  refine z_sub [0, 1] rfl ?_
  exact w_X2_copySound hx hn hR hq hj hk σ h
theorem dX2_copyAll_0 : decode cX2_copyAll 0 = .ok (.aload_n 0, 1) := by decide +kernel
theorem dX2_copyAll_1 : decode cX2_copyAll 1 = .ok (.aload_n 1, 1) := by decide +kernel
theorem dX2_copyAll_2 : decode cX2_copyAll 2 = .ok (.invokevirtual 50, 3) := by decide +kernel
theorem dX2_copyAll_5 : decode cX2_copyAll 5 = .ok (.aload_n 1, 1) := by decide +kernel
theorem dX2_copyAll_6 : decode cX2_copyAll 6 = .ok (.getfield 38, 3) := by decide +kernel
theorem dX2_copyAll_9 : decode cX2_copyAll 9 = .ok (.iconst 0, 1) := by decide +kernel
theorem dX2_copyAll_10 : decode cX2_copyAll 10 = .ok (.aload_n 0, 1) := by decide +kernel
theorem dX2_copyAll_11 : decode cX2_copyAll 11 = .ok (.getfield 38, 3) := by decide +kernel
theorem dX2_copyAll_14 : decode cX2_copyAll 14 = .ok (.iconst 0, 1) := by decide +kernel
theorem dX2_copyAll_15 : decode cX2_copyAll 15 = .ok (.bipush 7, 2) := by decide +kernel
theorem dX2_copyAll_17 : decode cX2_copyAll 17 = .ok (.invokestatic 44, 3) := by decide +kernel
theorem dX2_copyAll_20 : decode cX2_copyAll 20 = .ok (.return_, 1) := by decide +kernel
abbrev rm_X2_copyAll : Room := { frames := 2, cells := 0, slots := 0, locals := 82 }
theorem w_X2_copyAll {C : zC} (hx : z_ok C cX2_copyAll RX2 0) (hn : z_nL C = 2) (hR : z_R C = rm_X2_copyAll) {rr : Unit × zS} (hq : z_fin C none (z_QV (z_g C) rr.2)) {j : Nat} (hj : j < 6) {k : Nat} (hk : k < 6) (σ : zS) (h : f_X2_copyAll j k σ = some rr) : z_W C σ 0 [(0, .ref (z_ad (z_g C) (8 * j))), (1, .ref (z_ad (z_g C) (8 * k)))] [] := by
  unfold f_X2_copyAll at h
  refine z_aload_n hx 0 dX2_copyAll_0 rfl ?_
  refine z_aload_n hx 1 dX2_copyAll_1 rfl ?_
  obtain ⟨⟨⟩, σ1, h2, h⟩ := z_bind_some h
  refine z_callv hx (As := [.ref (z_ad (z_g C) (8 * k))]) (k := 8 * j) (met_X2_copySound (z_l C) (z_g C) (z_ok_sd hx) hj hk h2) (z_lt0 (z_ok_sd hx) (by have := hj; omega)) (z_ka0 (z_ok_sd hx) hj _) rfl rfl cv_X2_50 (z_room hR ⟨Nat.le_of_ble_eq_true rfl, Nat.le_of_ble_eq_true rfl⟩) ⟨rfl, rfl⟩ rfl rfl (Nat.le_of_ble_eq_true rfl) dX2_copyAll_2 ?_
  refine z_aload_n hx 1 dX2_copyAll_5 rfl ?_
  refine gf_X2_settings hx wf_X2_38 hk dX2_copyAll_6 ?_
  refine z_iconst hx (n := 0) dX2_copyAll_9 ?_
  refine z_aload_n hx 0 dX2_copyAll_10 rfl ?_
  refine gf_X2_settings hx wf_X2_38 hj dX2_copyAll_11 ?_
  refine z_iconst hx (n := 0) dX2_copyAll_14 ?_
  refine z_bipush hx (n := 7) dX2_copyAll_15 rfl ?_
  refine z_copyi hx (n1 := 7) (n2 := 7) (z_lt0 (z_ok_sd hx) (by have := hk; omega)) (z_lt0 (z_ok_sd hx) (by have := hj; omega)) (z_ka7 (z_ok_sd hx) hk _) (z_ka7 (z_ok_sd hx) hj) rfl rfl (by decide) (by decide) wm_X2_44 wna_ac wst_ac wi_J10 (z_room hR ⟨Nat.le_of_ble_eq_true rfl, Nat.le_of_ble_eq_true rfl⟩) (Nat.le_of_ble_eq_true rfl) dX2_copyAll_17 h (fun σ2 h => ?_)
  cases h
  exact z_vret hx hq dX2_copyAll_20

theorem met_X2_copyAll (l : Launch) (g : zG) (hg : g.1 = 0) {j : Nat} (hj : j < 6) {k : Nat} (hk : k < 6) {σ : zS} {rr : Unit × zS} (h : f_X2_copyAll j k σ = some rr) : z_Met l yX2_copyAll cX2_copyAll 2 none rm_X2_copyAll g [.ref (z_ad (g) (8 * j)), .ref (z_ad (g) (8 * k))] σ (z_QV g rr.2) := by
  refine z_enter (own := RX2) (sd := 0) (lv0 := [(0, .ref (z_ad (g) (8 * j))), (1, .ref (z_ad (g) (8 * k)))]) (by decide) rfl (Nat.le_of_ble_eq_true rfl) hg rfl (fun C hx hl hgC hR hn hq => ?_)
  subst hgC
  refine z_sub [0, 1] rfl ?_
  exact w_X2_copyAll hx hn hR hq hj hk σ h
theorem dX2_addFrame_0 : decode cX2_addFrame 0 = .ok (.aload_n 0, 1) := by decide +kernel
theorem dX2_addFrame_1 : decode cX2_addFrame 1 = .ok (.getfield 15, 3) := by decide +kernel
theorem dX2_addFrame_4 : decode cX2_addFrame 4 = .ok (.sipush 200, 3) := by decide +kernel
theorem dX2_addFrame_7 : decode cX2_addFrame 7 = .ok (.if_icmp .ge 23, 3) := by decide +kernel
theorem dX2_addFrame_10 : decode cX2_addFrame 10 = .ok (.aload_n 0, 1) := by decide +kernel
theorem dX2_addFrame_11 : decode cX2_addFrame 11 = .ok (.getfield 9, 3) := by decide +kernel
theorem dX2_addFrame_14 : decode cX2_addFrame 14 = .ok (.aload_n 0, 1) := by decide +kernel
theorem dX2_addFrame_15 : decode cX2_addFrame 15 = .ok (.getfield 15, 3) := by decide +kernel
theorem dX2_addFrame_18 : decode cX2_addFrame 18 = .ok (.iload_n 1, 1) := by decide +kernel
theorem dX2_addFrame_19 : decode cX2_addFrame 19 = .ok (.iastore, 1) := by decide +kernel
theorem dX2_addFrame_20 : decode cX2_addFrame 20 = .ok (.aload_n 0, 1) := by decide +kernel
theorem dX2_addFrame_21 : decode cX2_addFrame 21 = .ok (.dup, 1) := by decide +kernel
theorem dX2_addFrame_22 : decode cX2_addFrame 22 = .ok (.getfield 15, 3) := by decide +kernel
theorem dX2_addFrame_25 : decode cX2_addFrame 25 = .ok (.iconst 1, 1) := by decide +kernel
theorem dX2_addFrame_26 : decode cX2_addFrame 26 = .ok (.iadd, 1) := by decide +kernel
theorem dX2_addFrame_27 : decode cX2_addFrame 27 = .ok (.putfield 15, 3) := by decide +kernel
theorem dX2_addFrame_30 : decode cX2_addFrame 30 = .ok (.return_, 1) := by decide +kernel
abbrev rm_X2_addFrame : Room := { frames := 0, cells := 0, slots := 0, locals := 0 }
theorem w_X2_addFrame_b30 {C : zC} (hx : z_ok C cX2_addFrame RX2 0) (hn : z_nL C = 2) (hR : z_R C = rm_X2_addFrame) {rr : Unit × zS} (hq : z_fin C none (z_QV (z_g C) rr.2)) {j : Nat} (hj : j < 6) (σ : zS) (h : f_X2_addFrame_b30 j σ = some rr) : z_W C σ 30 [] [] := by
  unfold f_X2_addFrame_b30 at h
  cases h
  exact z_vret hx hq dX2_addFrame_30

theorem w_X2_addFrame {C : zC} (hx : z_ok C cX2_addFrame RX2 0) (hn : z_nL C = 2) (hR : z_R C = rm_X2_addFrame) {rr : Unit × zS} (hq : z_fin C none (z_QV (z_g C) rr.2)) {j : Nat} (hj : j < 6) (σ : zS) (x1 : Int) (h : f_X2_addFrame j σ x1 = some rr) : z_W C σ 0 [(0, .ref (z_ad (z_g C) (8 * j))), (1, .int (zi x1))] [] := by
  unfold f_X2_addFrame at h
  refine z_aload_n hx 0 dX2_addFrame_0 rfl ?_
  refine gf_X2_frames hx wf_X2_15 hj dX2_addFrame_1 ?_
  refine z_sipush hx (n := 200) dX2_addFrame_4 rfl ?_
  refine z_icmp_ge hx (tgt := 30) dX2_addFrame_7 (by decide) h (fun h => ⟨h, by decide⟩) (fun hc h => ?_) (fun hc h => ?_)
  · refine z_sub [] rfl ?_
    exact w_X2_addFrame_b30 hx hn hR hq hj σ h
  · refine z_aload_n hx 0 dX2_addFrame_10 rfl ?_
    refine gf_X2_levels hx wf_X2_9 hj dX2_addFrame_11 ?_
    refine z_aload_n hx 0 dX2_addFrame_14 rfl ?_
    refine gf_X2_frames hx wf_X2_15 hj dX2_addFrame_15 ?_
    refine z_iload_n hx 1 dX2_addFrame_18 rfl ?_
    refine z_iast hx (n := 200) (z_lt0 (z_ok_sd hx) (by have := hj; omega)) (z_ka1 (z_ok_sd hx) hj) rfl (by decide) dX2_addFrame_19 h (fun σ1 h => ?_)
    refine z_aload_n hx 0 dX2_addFrame_20 rfl ?_
    refine z_dup hx dX2_addFrame_21 rfl ?_
    refine gf_X2_frames hx wf_X2_15 hj dX2_addFrame_22 ?_
    refine z_iconst hx (n := 1) dX2_addFrame_25 ?_
    refine z_iadd hx dX2_addFrame_26 ?_
    refine pf_X2_frames hx wf_X2_15 hj dX2_addFrame_27 h (fun σ2 h => ?_)
    refine z_sub [] rfl ?_
    exact w_X2_addFrame_b30 hx hn hR hq hj σ2 h

theorem met_X2_addFrame (l : Launch) (g : zG) (hg : g.1 = 0) {j : Nat} (hj : j < 6) {σ : zS} {x1 : Int} {rr : Unit × zS} (h : f_X2_addFrame j σ x1 = some rr) : z_Met l yX2_addFrame cX2_addFrame 2 none rm_X2_addFrame g [.ref (z_ad (g) (8 * j)), .int (zi x1)] σ (z_QV g rr.2) := by
  refine z_enter (own := RX2) (sd := 0) (lv0 := [(0, .ref (z_ad (g) (8 * j))), (1, .int (zi x1))]) (by decide) rfl (Nat.le_of_ble_eq_true rfl) hg rfl (fun C hx hl hgC hR hn hq => ?_)
  subst hgC
  refine z_sub [0, 1] rfl ?_
  exact w_X2_addFrame hx hn hR hq hj σ x1 h
theorem dX2_hasFrame_0 : decode cX2_hasFrame 0 = .ok (.iload_n 1, 1) := by decide +kernel
theorem dX2_hasFrame_1 : decode cX2_hasFrame 1 = .ok (.ifCond .lt 15, 3) := by decide +kernel
theorem dX2_hasFrame_4 : decode cX2_hasFrame 4 = .ok (.iload_n 1, 1) := by decide +kernel
theorem dX2_hasFrame_5 : decode cX2_hasFrame 5 = .ok (.aload_n 0, 1) := by decide +kernel
theorem dX2_hasFrame_6 : decode cX2_hasFrame 6 = .ok (.getfield 15, 3) := by decide +kernel
theorem dX2_hasFrame_9 : decode cX2_hasFrame 9 = .ok (.if_icmp .ge 7, 3) := by decide +kernel
theorem dX2_hasFrame_12 : decode cX2_hasFrame 12 = .ok (.iconst 1, 1) := by decide +kernel
theorem dX2_hasFrame_13 : decode cX2_hasFrame 13 = .ok (.goto 4, 3) := by decide +kernel
theorem dX2_hasFrame_16 : decode cX2_hasFrame 16 = .ok (.iconst 0, 1) := by decide +kernel
theorem dX2_hasFrame_17 : decode cX2_hasFrame 17 = .ok (.ireturn, 1) := by decide +kernel
abbrev rm_X2_hasFrame : Room := { frames := 0, cells := 0, slots := 0, locals := 0 }
theorem w_X2_hasFrame_b17 {C : zC} (hx : z_ok C cX2_hasFrame RX2 0) (hn : z_nL C = 2) (hR : z_R C = rm_X2_hasFrame) {rr : Int × zS} (hq : z_fin C (some .boolean) (z_QI (z_g C) rr.1 rr.2)) {j : Nat} (hj : j < 6) (σ : zS) (s0 : Int) (h : f_X2_hasFrame_b17 j σ s0 = some rr) : z_W C σ 17 [] [.int (zi s0)] := by
  unfold f_X2_hasFrame_b17 at h
  obtain ⟨hz, h⟩ := z_gd h
  cases h
  exact z_zret hx hz hq dX2_hasFrame_17

theorem w_X2_hasFrame_b16 {C : zC} (hx : z_ok C cX2_hasFrame RX2 0) (hn : z_nL C = 2) (hR : z_R C = rm_X2_hasFrame) {rr : Int × zS} (hq : z_fin C (some .boolean) (z_QI (z_g C) rr.1 rr.2)) {j : Nat} (hj : j < 6) (σ : zS) (h : f_X2_hasFrame_b16 j σ = some rr) : z_W C σ 16 [] [] := by
  unfold f_X2_hasFrame_b16 at h
  refine z_iconst hx (n := 0) dX2_hasFrame_16 ?_
  refine z_sub [] rfl ?_
  exact w_X2_hasFrame_b17 hx hn hR hq hj σ 0 h

theorem w_X2_hasFrame {C : zC} (hx : z_ok C cX2_hasFrame RX2 0) (hn : z_nL C = 2) (hR : z_R C = rm_X2_hasFrame) {rr : Int × zS} (hq : z_fin C (some .boolean) (z_QI (z_g C) rr.1 rr.2)) {j : Nat} (hj : j < 6) (σ : zS) (x1 : Int) (h : f_X2_hasFrame j σ x1 = some rr) : z_W C σ 0 [(0, .ref (z_ad (z_g C) (8 * j))), (1, .int (zi x1))] [] := by
  unfold f_X2_hasFrame at h
  refine z_iload_n hx 1 dX2_hasFrame_0 rfl ?_
  refine z_if_lt hx (tgt := 16) dX2_hasFrame_1 (by decide) h (fun h => h) (fun hc h => ?_) (fun hc h => ?_)
  · refine z_sub [] rfl ?_
    exact w_X2_hasFrame_b16 hx hn hR hq hj σ h
  · refine z_iload_n hx 1 dX2_hasFrame_4 rfl ?_
    refine z_aload_n hx 0 dX2_hasFrame_5 rfl ?_
    refine gf_X2_frames hx wf_X2_15 hj dX2_hasFrame_6 ?_
    refine z_icmp_ge hx (tgt := 16) dX2_hasFrame_9 (by decide) h (fun h => h) (fun hc h => ?_) (fun hc h => ?_)
    · refine z_sub [] rfl ?_
      exact w_X2_hasFrame_b16 hx hn hR hq hj σ h
    · refine z_iconst hx (n := 1) dX2_hasFrame_12 ?_
      refine z_goto hx (tgt := 17) dX2_hasFrame_13 (by decide) ?_
      refine z_sub [] rfl ?_
      exact w_X2_hasFrame_b17 hx hn hR hq hj σ 1 h

theorem met_X2_hasFrame (l : Launch) (g : zG) (hg : g.1 = 0) {j : Nat} (hj : j < 6) {σ : zS} {x1 : Int} {rr : Int × zS} (h : f_X2_hasFrame j σ x1 = some rr) : z_Met l yX2_hasFrame cX2_hasFrame 2 (some .boolean) rm_X2_hasFrame g [.ref (z_ad (g) (8 * j)), .int (zi x1)] σ (z_QI g rr.1 rr.2) := by
  refine z_enter (own := RX2) (sd := 0) (lv0 := [(0, .ref (z_ad (g) (8 * j))), (1, .int (zi x1))]) (by decide) rfl (Nat.le_of_ble_eq_true rfl) hg rfl (fun C hx hl hgC hR hn hq => ?_)
  subst hgC
  refine z_sub [0, 1] rfl ?_
  exact w_X2_hasFrame hx hn hR hq hj σ x1 h
theorem dX2_levelAt_0 : decode cX2_levelAt 0 = .ok (.iload_n 1, 1) := by decide +kernel
theorem dX2_levelAt_1 : decode cX2_levelAt 1 = .ok (.ifCond .lt 20, 3) := by decide +kernel
theorem dX2_levelAt_4 : decode cX2_levelAt 4 = .ok (.iload_n 1, 1) := by decide +kernel
theorem dX2_levelAt_5 : decode cX2_levelAt 5 = .ok (.aload_n 0, 1) := by decide +kernel
theorem dX2_levelAt_6 : decode cX2_levelAt 6 = .ok (.getfield 15, 3) := by decide +kernel
theorem dX2_levelAt_9 : decode cX2_levelAt 9 = .ok (.if_icmp .ge 12, 3) := by decide +kernel
theorem dX2_levelAt_12 : decode cX2_levelAt 12 = .ok (.aload_n 0, 1) := by decide +kernel
theorem dX2_levelAt_13 : decode cX2_levelAt 13 = .ok (.getfield 9, 3) := by decide +kernel
theorem dX2_levelAt_16 : decode cX2_levelAt 16 = .ok (.iload_n 1, 1) := by decide +kernel
theorem dX2_levelAt_17 : decode cX2_levelAt 17 = .ok (.iaload, 1) := by decide +kernel
theorem dX2_levelAt_18 : decode cX2_levelAt 18 = .ok (.goto 4, 3) := by decide +kernel
theorem dX2_levelAt_21 : decode cX2_levelAt 21 = .ok (.iconst 0, 1) := by decide +kernel
theorem dX2_levelAt_22 : decode cX2_levelAt 22 = .ok (.ireturn, 1) := by decide +kernel
abbrev rm_X2_levelAt : Room := { frames := 0, cells := 0, slots := 0, locals := 0 }
theorem w_X2_levelAt_b22 {C : zC} (hx : z_ok C cX2_levelAt RX2 0) (hn : z_nL C = 2) (hR : z_R C = rm_X2_levelAt) {rr : Int × zS} (hq : z_fin C (some .int) (z_QI (z_g C) rr.1 rr.2)) {j : Nat} (hj : j < 6) (σ : zS) (s0 : Int) (h : f_X2_levelAt_b22 j σ s0 = some rr) : z_W C σ 22 [] [.int (zi s0)] := by
  unfold f_X2_levelAt_b22 at h
  cases h
  exact z_iret hx hq dX2_levelAt_22

theorem w_X2_levelAt_b21 {C : zC} (hx : z_ok C cX2_levelAt RX2 0) (hn : z_nL C = 2) (hR : z_R C = rm_X2_levelAt) {rr : Int × zS} (hq : z_fin C (some .int) (z_QI (z_g C) rr.1 rr.2)) {j : Nat} (hj : j < 6) (σ : zS) (h : f_X2_levelAt_b21 j σ = some rr) : z_W C σ 21 [] [] := by
  unfold f_X2_levelAt_b21 at h
  refine z_iconst hx (n := 0) dX2_levelAt_21 ?_
  refine z_sub [] rfl ?_
  exact w_X2_levelAt_b22 hx hn hR hq hj σ 0 h

theorem w_X2_levelAt {C : zC} (hx : z_ok C cX2_levelAt RX2 0) (hn : z_nL C = 2) (hR : z_R C = rm_X2_levelAt) {rr : Int × zS} (hq : z_fin C (some .int) (z_QI (z_g C) rr.1 rr.2)) {j : Nat} (hj : j < 6) (σ : zS) (x1 : Int) (h : f_X2_levelAt j σ x1 = some rr) : z_W C σ 0 [(0, .ref (z_ad (z_g C) (8 * j))), (1, .int (zi x1))] [] := by
  unfold f_X2_levelAt at h
  refine z_iload_n hx 1 dX2_levelAt_0 rfl ?_
  refine z_if_lt hx (tgt := 21) dX2_levelAt_1 (by decide) h (fun h => h) (fun hc h => ?_) (fun hc h => ?_)
  · refine z_sub [] rfl ?_
    exact w_X2_levelAt_b21 hx hn hR hq hj σ h
  · refine z_iload_n hx 1 dX2_levelAt_4 rfl ?_
    refine z_aload_n hx 0 dX2_levelAt_5 rfl ?_
    refine gf_X2_frames hx wf_X2_15 hj dX2_levelAt_6 ?_
    refine z_icmp_ge hx (tgt := 21) dX2_levelAt_9 (by decide) h (fun h => h) (fun hc h => ?_) (fun hc h => ?_)
    · refine z_sub [] rfl ?_
      exact w_X2_levelAt_b21 hx hn hR hq hj σ h
    · refine z_aload_n hx 0 dX2_levelAt_12 rfl ?_
      refine gf_X2_levels hx wf_X2_9 hj dX2_levelAt_13 ?_
      refine z_iload_n hx 1 dX2_levelAt_16 rfl ?_
      refine z_iald hx (n := 200) (z_lt0 (z_ok_sd hx) (by have := hj; omega)) (z_ka1 (z_ok_sd hx) hj _) rfl (by decide) dX2_levelAt_17 h (fun h => ?_)
      refine z_goto hx (tgt := 22) dX2_levelAt_18 (by decide) ?_
      refine z_sub [] rfl ?_
      exact w_X2_levelAt_b22 hx hn hR hq hj σ (σ (8 * j + 1) x1) h

theorem met_X2_levelAt (l : Launch) (g : zG) (hg : g.1 = 0) {j : Nat} (hj : j < 6) {σ : zS} {x1 : Int} {rr : Int × zS} (h : f_X2_levelAt j σ x1 = some rr) : z_Met l yX2_levelAt cX2_levelAt 2 (some .int) rm_X2_levelAt g [.ref (z_ad (g) (8 * j)), .int (zi x1)] σ (z_QI g rr.1 rr.2) := by
  refine z_enter (own := RX2) (sd := 0) (lv0 := [(0, .ref (z_ad (g) (8 * j))), (1, .int (zi x1))]) (by decide) rfl (Nat.le_of_ble_eq_true rfl) hg rfl (fun C hx hl hgC hR hn hq => ?_)
  subst hgC
  refine z_sub [0, 1] rfl ?_
  exact w_X2_levelAt hx hn hR hq hj σ x1 h
theorem dX2_hasMark_0 : decode cX2_hasMark 0 = .ok (.iload_n 1, 1) := by decide +kernel
theorem dX2_hasMark_1 : decode cX2_hasMark 1 = .ok (.ifCond .lt 15, 3) := by decide +kernel
theorem dX2_hasMark_4 : decode cX2_hasMark 4 = .ok (.iload_n 1, 1) := by decide +kernel
theorem dX2_hasMark_5 : decode cX2_hasMark 5 = .ok (.aload_n 0, 1) := by decide +kernel
theorem dX2_hasMark_6 : decode cX2_hasMark 6 = .ok (.getfield 35, 3) := by decide +kernel
theorem dX2_hasMark_9 : decode cX2_hasMark 9 = .ok (.if_icmp .ge 7, 3) := by decide +kernel
theorem dX2_hasMark_12 : decode cX2_hasMark 12 = .ok (.iconst 1, 1) := by decide +kernel
theorem dX2_hasMark_13 : decode cX2_hasMark 13 = .ok (.goto 4, 3) := by decide +kernel
theorem dX2_hasMark_16 : decode cX2_hasMark 16 = .ok (.iconst 0, 1) := by decide +kernel
theorem dX2_hasMark_17 : decode cX2_hasMark 17 = .ok (.ireturn, 1) := by decide +kernel
abbrev rm_X2_hasMark : Room := { frames := 0, cells := 0, slots := 0, locals := 0 }
theorem w_X2_hasMark_b17 {C : zC} (hx : z_ok C cX2_hasMark RX2 0) (hn : z_nL C = 2) (hR : z_R C = rm_X2_hasMark) {rr : Int × zS} (hq : z_fin C (some .boolean) (z_QI (z_g C) rr.1 rr.2)) {j : Nat} (hj : j < 6) (σ : zS) (s0 : Int) (h : f_X2_hasMark_b17 j σ s0 = some rr) : z_W C σ 17 [] [.int (zi s0)] := by
  unfold f_X2_hasMark_b17 at h
  obtain ⟨hz, h⟩ := z_gd h
  cases h
  exact z_zret hx hz hq dX2_hasMark_17

theorem w_X2_hasMark_b16 {C : zC} (hx : z_ok C cX2_hasMark RX2 0) (hn : z_nL C = 2) (hR : z_R C = rm_X2_hasMark) {rr : Int × zS} (hq : z_fin C (some .boolean) (z_QI (z_g C) rr.1 rr.2)) {j : Nat} (hj : j < 6) (σ : zS) (h : f_X2_hasMark_b16 j σ = some rr) : z_W C σ 16 [] [] := by
  unfold f_X2_hasMark_b16 at h
  refine z_iconst hx (n := 0) dX2_hasMark_16 ?_
  refine z_sub [] rfl ?_
  exact w_X2_hasMark_b17 hx hn hR hq hj σ 0 h

theorem w_X2_hasMark {C : zC} (hx : z_ok C cX2_hasMark RX2 0) (hn : z_nL C = 2) (hR : z_R C = rm_X2_hasMark) {rr : Int × zS} (hq : z_fin C (some .boolean) (z_QI (z_g C) rr.1 rr.2)) {j : Nat} (hj : j < 6) (σ : zS) (x1 : Int) (h : f_X2_hasMark j σ x1 = some rr) : z_W C σ 0 [(0, .ref (z_ad (z_g C) (8 * j))), (1, .int (zi x1))] [] := by
  unfold f_X2_hasMark at h
  refine z_iload_n hx 1 dX2_hasMark_0 rfl ?_
  refine z_if_lt hx (tgt := 16) dX2_hasMark_1 (by decide) h (fun h => h) (fun hc h => ?_) (fun hc h => ?_)
  · refine z_sub [] rfl ?_
    exact w_X2_hasMark_b16 hx hn hR hq hj σ h
  · refine z_iload_n hx 1 dX2_hasMark_4 rfl ?_
    refine z_aload_n hx 0 dX2_hasMark_5 rfl ?_
    refine gf_X2_marks hx wf_X2_35 hj dX2_hasMark_6 ?_
    refine z_icmp_ge hx (tgt := 16) dX2_hasMark_9 (by decide) h (fun h => h) (fun hc h => ?_) (fun hc h => ?_)
    · refine z_sub [] rfl ?_
      exact w_X2_hasMark_b16 hx hn hR hq hj σ h
    · refine z_iconst hx (n := 1) dX2_hasMark_12 ?_
      refine z_goto hx (tgt := 17) dX2_hasMark_13 (by decide) ?_
      refine z_sub [] rfl ?_
      exact w_X2_hasMark_b17 hx hn hR hq hj σ 1 h

theorem met_X2_hasMark (l : Launch) (g : zG) (hg : g.1 = 0) {j : Nat} (hj : j < 6) {σ : zS} {x1 : Int} {rr : Int × zS} (h : f_X2_hasMark j σ x1 = some rr) : z_Met l yX2_hasMark cX2_hasMark 2 (some .boolean) rm_X2_hasMark g [.ref (z_ad (g) (8 * j)), .int (zi x1)] σ (z_QI g rr.1 rr.2) := by
  refine z_enter (own := RX2) (sd := 0) (lv0 := [(0, .ref (z_ad (g) (8 * j))), (1, .int (zi x1))]) (by decide) rfl (Nat.le_of_ble_eq_true rfl) hg rfl (fun C hx hl hgC hR hn hq => ?_)
  subst hgC
  refine z_sub [0, 1] rfl ?_
  exact w_X2_hasMark hx hn hR hq hj σ x1 h
theorem dX2_overlaps_0 : decode cX2_overlaps 0 = .ok (.iconst 0, 1) := by decide +kernel
theorem dX2_overlaps_1 : decode cX2_overlaps 1 = .ok (.istore_n 3, 1) := by decide +kernel
theorem dX2_overlaps_2 : decode cX2_overlaps 2 = .ok (.iload_n 3, 1) := by decide +kernel
theorem dX2_overlaps_3 : decode cX2_overlaps 3 = .ok (.aload_n 0, 1) := by decide +kernel
theorem dX2_overlaps_4 : decode cX2_overlaps 4 = .ok (.getfield 35, 3) := by decide +kernel
theorem dX2_overlaps_7 : decode cX2_overlaps 7 = .ok (.if_icmp .ge 31, 3) := by decide +kernel
theorem dX2_overlaps_10 : decode cX2_overlaps 10 = .ok (.iload_n 1, 1) := by decide +kernel
theorem dX2_overlaps_11 : decode cX2_overlaps 11 = .ok (.aload_n 0, 1) := by decide +kernel
theorem dX2_overlaps_12 : decode cX2_overlaps 12 = .ok (.getfield 25, 3) := by decide +kernel
theorem dX2_overlaps_15 : decode cX2_overlaps 15 = .ok (.iload_n 3, 1) := by decide +kernel
theorem dX2_overlaps_16 : decode cX2_overlaps 16 = .ok (.iaload, 1) := by decide +kernel
theorem dX2_overlaps_17 : decode cX2_overlaps 17 = .ok (.if_icmp .ge 15, 3) := by decide +kernel
theorem dX2_overlaps_20 : decode cX2_overlaps 20 = .ok (.aload_n 0, 1) := by decide +kernel
theorem dX2_overlaps_21 : decode cX2_overlaps 21 = .ok (.getfield 22, 3) := by decide +kernel
theorem dX2_overlaps_24 : decode cX2_overlaps 24 = .ok (.iload_n 3, 1) := by decide +kernel
theorem dX2_overlaps_25 : decode cX2_overlaps 25 = .ok (.iaload, 1) := by decide +kernel
theorem dX2_overlaps_26 : decode cX2_overlaps 26 = .ok (.iload_n 2, 1) := by decide +kernel
theorem dX2_overlaps_27 : decode cX2_overlaps 27 = .ok (.if_icmp .ge 5, 3) := by decide +kernel
theorem dX2_overlaps_30 : decode cX2_overlaps 30 = .ok (.iconst 1, 1) := by decide +kernel
theorem dX2_overlaps_31 : decode cX2_overlaps 31 = .ok (.ireturn, 1) := by decide +kernel
theorem dX2_overlaps_32 : decode cX2_overlaps 32 = .ok (.iinc 3 1, 3) := by decide +kernel
theorem dX2_overlaps_35 : decode cX2_overlaps 35 = .ok (.goto (-33), 3) := by decide +kernel
theorem dX2_overlaps_38 : decode cX2_overlaps 38 = .ok (.iconst 0, 1) := by decide +kernel
theorem dX2_overlaps_39 : decode cX2_overlaps 39 = .ok (.ireturn, 1) := by decide +kernel
abbrev rm_X2_overlaps : Room := { frames := 0, cells := 0, slots := 0, locals := 0 }
theorem w_X2_overlaps_b32 {C : zC} (hx : z_ok C cX2_overlaps RX2 0) (hn : z_nL C = 4) (hR : z_R C = rm_X2_overlaps) {rr : Int × zS} (hq : z_fin C (some .boolean) (z_QI (z_g C) rr.1 rr.2)) {j : Nat} (hj : j < 6) {K2 : zS → Int → Int → Int → Option (Int × zS)} (hK2 : ∀ (σ : zS) (x1 : Int) (x2 : Int) (x3 : Int) , K2 σ x1 x2 x3 = some rr → z_W C σ 2 [(0, .ref (z_ad (z_g C) (8 * j))), (1, .int (zi x1)), (2, .int (zi x2)), (3, .int (zi x3))] []) (σ : zS) (x1 : Int) (x2 : Int) (x3 : Int) (h : f_X2_overlaps_b32 j K2 σ x1 x2 x3 = some rr) : z_W C σ 32 [(0, .ref (z_ad (z_g C) (8 * j))), (1, .int (zi x1)), (2, .int (zi x2)), (3, .int (zi x3))] [] := by
  unfold f_X2_overlaps_b32 at h
  refine z_iinc hx hn 3 (lv' := [(3, .int (zi (x3 + 1))), (0, .ref (z_ad (z_g C) (8 * j))), (1, .int (zi x1)), (2, .int (zi x2))]) dX2_overlaps_32 rfl (by decide) rfl ?_
  refine z_goto hx (tgt := 2) dX2_overlaps_35 (by decide) ?_
  refine z_sub [1, 2, 3, 0] rfl ?_
  exact hK2 σ x1 x2 (x3 + 1) h

theorem w_X2_overlaps_b2 {C : zC} (hx : z_ok C cX2_overlaps RX2 0) (hn : z_nL C = 4) (hR : z_R C = rm_X2_overlaps) {rr : Int × zS} (hq : z_fin C (some .boolean) (z_QI (z_g C) rr.1 rr.2)) {j : Nat} (hj : j < 6) {K2 : zS → Int → Int → Int → Option (Int × zS)} (hK2 : ∀ (σ : zS) (x1 : Int) (x2 : Int) (x3 : Int) , K2 σ x1 x2 x3 = some rr → z_W C σ 2 [(0, .ref (z_ad (z_g C) (8 * j))), (1, .int (zi x1)), (2, .int (zi x2)), (3, .int (zi x3))] []) (σ : zS) (x1 : Int) (x2 : Int) (x3 : Int) (h : f_X2_overlaps_b2 j K2 σ x1 x2 x3 = some rr) : z_W C σ 2 [(0, .ref (z_ad (z_g C) (8 * j))), (1, .int (zi x1)), (2, .int (zi x2)), (3, .int (zi x3))] [] := by
  unfold f_X2_overlaps_b2 at h
  refine z_iload_n hx 3 dX2_overlaps_2 rfl ?_
  refine z_aload_n hx 0 dX2_overlaps_3 rfl ?_
  refine gf_X2_marks hx wf_X2_35 hj dX2_overlaps_4 ?_
  refine z_icmp_ge hx (tgt := 38) dX2_overlaps_7 (by decide) h (fun h => h) (fun hc h => ?_) (fun hc h => ?_)
  · refine z_iconst hx (n := 0) dX2_overlaps_38 ?_
    cases h
    exact z_zret hx (by decide) hq dX2_overlaps_39
  · refine z_iload_n hx 1 dX2_overlaps_10 rfl ?_
    refine z_aload_n hx 0 dX2_overlaps_11 rfl ?_
    refine gf_X2_ends hx wf_X2_25 hj dX2_overlaps_12 ?_
    refine z_iload_n hx 3 dX2_overlaps_15 rfl ?_
    refine z_iald hx (n := 20) (z_lt0 (z_ok_sd hx) (by have := hj; omega)) (z_ka4 (z_ok_sd hx) hj _) rfl (by decide) dX2_overlaps_16 h (fun h => ?_)
    refine z_icmp_ge hx (tgt := 32) dX2_overlaps_17 (by decide) h (fun h => h) (fun hc h => ?_) (fun hc h => ?_)
    · refine z_sub [0, 1, 2, 3] rfl ?_
      exact w_X2_overlaps_b32 hx hn hR hq hj hK2 σ x1 x2 x3 h
    · refine z_aload_n hx 0 dX2_overlaps_20 rfl ?_
      refine gf_X2_firsts hx wf_X2_22 hj dX2_overlaps_21 ?_
      refine z_iload_n hx 3 dX2_overlaps_24 rfl ?_
      refine z_iald hx (n := 20) (z_lt0 (z_ok_sd hx) (by have := hj; omega)) (z_ka3 (z_ok_sd hx) hj _) rfl (by decide) dX2_overlaps_25 h (fun h => ?_)
      refine z_iload_n hx 2 dX2_overlaps_26 rfl ?_
      refine z_icmp_ge hx (tgt := 32) dX2_overlaps_27 (by decide) h (fun h => h) (fun hc h => ?_) (fun hc h => ?_)
      · refine z_sub [0, 1, 2, 3] rfl ?_
        exact w_X2_overlaps_b32 hx hn hR hq hj hK2 σ x1 x2 x3 h
      · refine z_iconst hx (n := 1) dX2_overlaps_30 ?_
        cases h
        exact z_zret hx (by decide) hq dX2_overlaps_31

theorem w_X2_overlaps_l2 {C : zC} (hx : z_ok C cX2_overlaps RX2 0) (hn : z_nL C = 4) (hR : z_R C = rm_X2_overlaps) {rr : Int × zS} (hq : z_fin C (some .boolean) (z_QI (z_g C) rr.1 rr.2)) {j : Nat} (hj : j < 6) : ∀ (n : Nat) (σ : zS) (x1 : Int) (x2 : Int) (x3 : Int) (_ : f_X2_overlaps_l2 j n σ x1 x2 x3 = some rr), z_W C σ 2 [(0, .ref (z_ad (z_g C) (8 * j))), (1, .int (zi x1)), (2, .int (zi x2)), (3, .int (zi x3))] [] := by
  intro n
  induction n with
  | zero => intro σ x1 x2 x3 h; cases h
  | succ n ih =>
    intro σ x1 x2 x3 h
    exact w_X2_overlaps_b2 hx hn hR hq hj ih σ x1 x2 x3 h
theorem w_X2_overlaps {C : zC} (hx : z_ok C cX2_overlaps RX2 0) (hn : z_nL C = 4) (hR : z_R C = rm_X2_overlaps) {rr : Int × zS} (hq : z_fin C (some .boolean) (z_QI (z_g C) rr.1 rr.2)) {j : Nat} (hj : j < 6) (σ : zS) (x1 : Int) (x2 : Int) (h : f_X2_overlaps j σ x1 x2 = some rr) : z_W C σ 0 [(0, .ref (z_ad (z_g C) (8 * j))), (1, .int (zi x1)), (2, .int (zi x2))] [] := by
  unfold f_X2_overlaps at h
  refine z_iconst hx (n := 0) dX2_overlaps_0 ?_
  refine z_istore_n hx hn (lv' := [(3, .int (zi 0)), (0, .ref (z_ad (z_g C) (8 * j))), (1, .int (zi x1)), (2, .int (zi x2))]) dX2_overlaps_1 (by decide) rfl ?_
  refine z_sub [1, 2, 3, 0] rfl ?_
  exact w_X2_overlaps_l2 hx hn hR hq hj z_fuel σ x1 x2 0 h

theorem met_X2_overlaps (l : Launch) (g : zG) (hg : g.1 = 0) {j : Nat} (hj : j < 6) {σ : zS} {x1 : Int} {x2 : Int} {rr : Int × zS} (h : f_X2_overlaps j σ x1 x2 = some rr) : z_Met l yX2_overlaps cX2_overlaps 4 (some .boolean) rm_X2_overlaps g [.ref (z_ad (g) (8 * j)), .int (zi x1), .int (zi x2)] σ (z_QI g rr.1 rr.2) := by
  refine z_enter (own := RX2) (sd := 0) (lv0 := [(0, .ref (z_ad (g) (8 * j))), (1, .int (zi x1)), (2, .int (zi x2))]) (by decide) rfl (Nat.le_of_ble_eq_true rfl) hg rfl (fun C hx hl hgC hR hn hq => ?_)
  subst hgC
  refine z_sub [0, 1, 2] rfl ?_
  exact w_X2_overlaps hx hn hR hq hj σ x1 x2 h
theorem dX2_addMark_0 : decode cX2_addMark 0 = .ok (.aload_n 0, 1) := by decide +kernel
theorem dX2_addMark_1 : decode cX2_addMark 1 = .ok (.getfield 35, 3) := by decide +kernel
theorem dX2_addMark_4 : decode cX2_addMark 4 = .ok (.bipush 20, 2) := by decide +kernel
theorem dX2_addMark_6 : decode cX2_addMark 6 = .ok (.if_icmp .lt 6, 3) := by decide +kernel
theorem dX2_addMark_9 : decode cX2_addMark 9 = .ok (.bipush (-3), 2) := by decide +kernel
theorem dX2_addMark_11 : decode cX2_addMark 11 = .ok (.ireturn, 1) := by decide +kernel
theorem dX2_addMark_12 : decode cX2_addMark 12 = .ok (.aload_n 0, 1) := by decide +kernel
theorem dX2_addMark_13 : decode cX2_addMark 13 = .ok (.getfield 35, 3) := by decide +kernel
theorem dX2_addMark_16 : decode cX2_addMark 16 = .ok (.istore 5, 2) := by decide +kernel
theorem dX2_addMark_18 : decode cX2_addMark 18 = .ok (.iload 5, 2) := by decide +kernel
theorem dX2_addMark_20 : decode cX2_addMark 20 = .ok (.ifCond .le 33, 3) := by decide +kernel
theorem dX2_addMark_23 : decode cX2_addMark 23 = .ok (.aload_n 0, 1) := by decide +kernel
theorem dX2_addMark_24 : decode cX2_addMark 24 = .ok (.getfield 22, 3) := by decide +kernel
theorem dX2_addMark_27 : decode cX2_addMark 27 = .ok (.iload 5, 2) := by decide +kernel
theorem dX2_addMark_29 : decode cX2_addMark 29 = .ok (.iconst 1, 1) := by decide +kernel
theorem dX2_addMark_30 : decode cX2_addMark 30 = .ok (.isub, 1) := by decide +kernel
theorem dX2_addMark_31 : decode cX2_addMark 31 = .ok (.iaload, 1) := by decide +kernel
theorem dX2_addMark_32 : decode cX2_addMark 32 = .ok (.iload_n 2, 1) := by decide +kernel
theorem dX2_addMark_33 : decode cX2_addMark 33 = .ok (.if_icmp .le 20, 3) := by decide +kernel
theorem dX2_addMark_36 : decode cX2_addMark 36 = .ok (.aload_n 0, 1) := by decide +kernel
theorem dX2_addMark_37 : decode cX2_addMark 37 = .ok (.aload_n 0, 1) := by decide +kernel
theorem dX2_addMark_38 : decode cX2_addMark 38 = .ok (.iload 5, 2) := by decide +kernel
theorem dX2_addMark_40 : decode cX2_addMark 40 = .ok (.iconst 1, 1) := by decide +kernel
theorem dX2_addMark_41 : decode cX2_addMark 41 = .ok (.isub, 1) := by decide +kernel
theorem dX2_addMark_42 : decode cX2_addMark 42 = .ok (.iload 5, 2) := by decide +kernel
theorem dX2_addMark_44 : decode cX2_addMark 44 = .ok (.invokevirtual 54, 3) := by decide +kernel
theorem dX2_addMark_47 : decode cX2_addMark 47 = .ok (.iinc 5 (-1), 3) := by decide +kernel
theorem dX2_addMark_50 : decode cX2_addMark 50 = .ok (.goto (-32), 3) := by decide +kernel
theorem dX2_addMark_53 : decode cX2_addMark 53 = .ok (.aload_n 0, 1) := by decide +kernel
theorem dX2_addMark_54 : decode cX2_addMark 54 = .ok (.getfield 19, 3) := by decide +kernel
theorem dX2_addMark_57 : decode cX2_addMark 57 = .ok (.iload 5, 2) := by decide +kernel
theorem dX2_addMark_59 : decode cX2_addMark 59 = .ok (.iload_n 1, 1) := by decide +kernel
theorem dX2_addMark_60 : decode cX2_addMark 60 = .ok (.iastore, 1) := by decide +kernel
theorem dX2_addMark_61 : decode cX2_addMark 61 = .ok (.aload_n 0, 1) := by decide +kernel
theorem dX2_addMark_62 : decode cX2_addMark 62 = .ok (.getfield 22, 3) := by decide +kernel
theorem dX2_addMark_65 : decode cX2_addMark 65 = .ok (.iload 5, 2) := by decide +kernel
theorem dX2_addMark_67 : decode cX2_addMark 67 = .ok (.iload_n 2, 1) := by decide +kernel
theorem dX2_addMark_68 : decode cX2_addMark 68 = .ok (.iastore, 1) := by decide +kernel
theorem dX2_addMark_69 : decode cX2_addMark 69 = .ok (.aload_n 0, 1) := by decide +kernel
theorem dX2_addMark_70 : decode cX2_addMark 70 = .ok (.getfield 25, 3) := by decide +kernel
theorem dX2_addMark_73 : decode cX2_addMark 73 = .ok (.iload 5, 2) := by decide +kernel
theorem dX2_addMark_75 : decode cX2_addMark 75 = .ok (.iload_n 3, 1) := by decide +kernel
theorem dX2_addMark_76 : decode cX2_addMark 76 = .ok (.iastore, 1) := by decide +kernel
theorem dX2_addMark_77 : decode cX2_addMark 77 = .ok (.aload_n 0, 1) := by decide +kernel
theorem dX2_addMark_78 : decode cX2_addMark 78 = .ok (.getfield 28, 3) := by decide +kernel
theorem dX2_addMark_81 : decode cX2_addMark 81 = .ok (.iload 5, 2) := by decide +kernel
theorem dX2_addMark_83 : decode cX2_addMark 83 = .ok (.iload 4, 2) := by decide +kernel
theorem dX2_addMark_85 : decode cX2_addMark 85 = .ok (.iastore, 1) := by decide +kernel
theorem dX2_addMark_86 : decode cX2_addMark 86 = .ok (.aload_n 0, 1) := by decide +kernel
theorem dX2_addMark_87 : decode cX2_addMark 87 = .ok (.getfield 31, 3) := by decide +kernel
theorem dX2_addMark_90 : decode cX2_addMark 90 = .ok (.iload 5, 2) := by decide +kernel
theorem dX2_addMark_92 : decode cX2_addMark 92 = .ok (.iconst 0, 1) := by decide +kernel
theorem dX2_addMark_93 : decode cX2_addMark 93 = .ok (.bastore, 1) := by decide +kernel
theorem dX2_addMark_94 : decode cX2_addMark 94 = .ok (.aload_n 0, 1) := by decide +kernel
theorem dX2_addMark_95 : decode cX2_addMark 95 = .ok (.dup, 1) := by decide +kernel
theorem dX2_addMark_96 : decode cX2_addMark 96 = .ok (.getfield 35, 3) := by decide +kernel
theorem dX2_addMark_99 : decode cX2_addMark 99 = .ok (.iconst 1, 1) := by decide +kernel
theorem dX2_addMark_100 : decode cX2_addMark 100 = .ok (.iadd, 1) := by decide +kernel
theorem dX2_addMark_101 : decode cX2_addMark 101 = .ok (.putfield 35, 3) := by decide +kernel
theorem dX2_addMark_104 : decode cX2_addMark 104 = .ok (.iload 5, 2) := by decide +kernel
theorem dX2_addMark_106 : decode cX2_addMark 106 = .ok (.ireturn, 1) := by decide +kernel
abbrev rm_X2_addMark : Room := { frames := 1, cells := 0, slots := 0, locals := 23 }
theorem w_X2_addMark_b53 {C : zC} (hx : z_ok C cX2_addMark RX2 0) (hn : z_nL C = 6) (hR : z_R C = rm_X2_addMark) {rr : Int × zS} (hq : z_fin C (some .int) (z_QI (z_g C) rr.1 rr.2)) {j : Nat} (hj : j < 6) (σ : zS) (x1 : Int) (x2 : Int) (x3 : Int) (x4 : Int) (x5 : Int) (h : f_X2_addMark_b53 j σ x1 x2 x3 x4 x5 = some rr) : z_W C σ 53 [(0, .ref (z_ad (z_g C) (8 * j))), (1, .int (zi x1)), (2, .int (zi x2)), (3, .int (zi x3)), (4, .int (zi x4)), (5, .int (zi x5))] [] := by
  unfold f_X2_addMark_b53 at h
  refine z_aload_n hx 0 dX2_addMark_53 rfl ?_
  refine gf_X2_kinds hx wf_X2_19 hj dX2_addMark_54 ?_
  refine z_iload hx 5 dX2_addMark_57 rfl ?_
  refine z_iload_n hx 1 dX2_addMark_59 rfl ?_
  refine z_iast hx (n := 20) (z_lt0 (z_ok_sd hx) (by have := hj; omega)) (z_ka2 (z_ok_sd hx) hj) rfl (by decide) dX2_addMark_60 h (fun σ1 h => ?_)
  refine z_aload_n hx 0 dX2_addMark_61 rfl ?_
  refine gf_X2_firsts hx wf_X2_22 hj dX2_addMark_62 ?_
  refine z_iload hx 5 dX2_addMark_65 rfl ?_
  refine z_iload_n hx 2 dX2_addMark_67 rfl ?_
  refine z_iast hx (n := 20) (z_lt0 (z_ok_sd hx) (by have := hj; omega)) (z_ka3 (z_ok_sd hx) hj) rfl (by decide) dX2_addMark_68 h (fun σ2 h => ?_)
  refine z_aload_n hx 0 dX2_addMark_69 rfl ?_
  refine gf_X2_ends hx wf_X2_25 hj dX2_addMark_70 ?_
  refine z_iload hx 5 dX2_addMark_73 rfl ?_
  refine z_iload_n hx 3 dX2_addMark_75 rfl ?_
  refine z_iast hx (n := 20) (z_lt0 (z_ok_sd hx) (by have := hj; omega)) (z_ka4 (z_ok_sd hx) hj) rfl (by decide) dX2_addMark_76 h (fun σ3 h => ?_)
  refine z_aload_n hx 0 dX2_addMark_77 rfl ?_
  refine gf_X2_doubts hx wf_X2_28 hj dX2_addMark_78 ?_
  refine z_iload hx 5 dX2_addMark_81 rfl ?_
  refine z_iload hx 4 dX2_addMark_83 rfl ?_
  refine z_iast hx (n := 20) (z_lt0 (z_ok_sd hx) (by have := hj; omega)) (z_ka5 (z_ok_sd hx) hj) rfl (by decide) dX2_addMark_85 h (fun σ4 h => ?_)
  refine z_aload_n hx 0 dX2_addMark_86 rfl ?_
  refine gf_X2_held hx wf_X2_31 hj dX2_addMark_87 ?_
  refine z_iload hx 5 dX2_addMark_90 rfl ?_
  refine z_iconst hx (n := 0) dX2_addMark_92 ?_
  refine z_zast hx (n := 20) (z_lt0 (z_ok_sd hx) (by have := hj; omega)) (z_ka6 (z_ok_sd hx) hj) rfl (by decide) dX2_addMark_93 h (fun σ5 h => ?_)
  refine z_aload_n hx 0 dX2_addMark_94 rfl ?_
  refine z_dup hx dX2_addMark_95 rfl ?_
  refine gf_X2_marks hx wf_X2_35 hj dX2_addMark_96 ?_
  refine z_iconst hx (n := 1) dX2_addMark_99 ?_
  refine z_iadd hx dX2_addMark_100 ?_
  refine pf_X2_marks hx wf_X2_35 hj dX2_addMark_101 h (fun σ6 h => ?_)
  refine z_iload hx 5 dX2_addMark_104 rfl ?_
  cases h
  exact z_iret hx hq dX2_addMark_106

theorem w_X2_addMark_b18 {C : zC} (hx : z_ok C cX2_addMark RX2 0) (hn : z_nL C = 6) (hR : z_R C = rm_X2_addMark) {rr : Int × zS} (hq : z_fin C (some .int) (z_QI (z_g C) rr.1 rr.2)) {j : Nat} (hj : j < 6) {K18 : zS → Int → Int → Int → Int → Int → Option (Int × zS)} (hK18 : ∀ (σ : zS) (x1 : Int) (x2 : Int) (x3 : Int) (x4 : Int) (x5 : Int) , K18 σ x1 x2 x3 x4 x5 = some rr → z_W C σ 18 [(0, .ref (z_ad (z_g C) (8 * j))), (1, .int (zi x1)), (2, .int (zi x2)), (3, .int (zi x3)), (4, .int (zi x4)), (5, .int (zi x5))] []) (σ : zS) (x1 : Int) (x2 : Int) (x3 : Int) (x4 : Int) (x5 : Int) (h : f_X2_addMark_b18 j K18 σ x1 x2 x3 x4 x5 = some rr) : z_W C σ 18 [(0, .ref (z_ad (z_g C) (8 * j))), (1, .int (zi x1)), (2, .int (zi x2)), (3, .int (zi x3)), (4, .int (zi x4)), (5, .int (zi x5))] [] := by
  unfold f_X2_addMark_b18 at h
  refine z_iload hx 5 dX2_addMark_18 rfl ?_
  refine z_if_le hx (tgt := 53) dX2_addMark_20 (by decide) h (fun h => h) (fun hc h => ?_) (fun hc h => ?_)
  · refine z_sub [0, 1, 2, 3, 4, 5] rfl ?_
    exact w_X2_addMark_b53 hx hn hR hq hj σ x1 x2 x3 x4 x5 h
  · refine z_aload_n hx 0 dX2_addMark_23 rfl ?_
    refine gf_X2_firsts hx wf_X2_22 hj dX2_addMark_24 ?_
    refine z_iload hx 5 dX2_addMark_27 rfl ?_
    refine z_iconst hx (n := 1) dX2_addMark_29 ?_
    refine z_isub hx dX2_addMark_30 ?_
    refine z_iald hx (n := 20) (z_lt0 (z_ok_sd hx) (by have := hj; omega)) (z_ka3 (z_ok_sd hx) hj _) rfl (by decide) dX2_addMark_31 h (fun h => ?_)
    refine z_iload_n hx 2 dX2_addMark_32 rfl ?_
    refine z_icmp_le hx (tgt := 53) dX2_addMark_33 (by decide) h (fun h => h) (fun hc h => ?_) (fun hc h => ?_)
    · refine z_sub [0, 1, 2, 3, 4, 5] rfl ?_
      exact w_X2_addMark_b53 hx hn hR hq hj σ x1 x2 x3 x4 x5 h
    · refine z_aload_n hx 0 dX2_addMark_36 rfl ?_
      refine z_aload_n hx 0 dX2_addMark_37 rfl ?_
      refine z_iload hx 5 dX2_addMark_38 rfl ?_
      refine z_iconst hx (n := 1) dX2_addMark_40 ?_
      refine z_isub hx dX2_addMark_41 ?_
      refine z_iload hx 5 dX2_addMark_42 rfl ?_
      obtain ⟨⟨⟩, σ1, h44, h⟩ := z_bind_some h
      refine z_callv hx (As := [.ref (z_ad (z_g C) (8 * j)), .int (zi (x5 - 1)), .int (zi x5)]) (k := 8 * j) (met_X2_copyMark (z_l C) (z_g C) (z_ok_sd hx) hj hj h44) (z_lt0 (z_ok_sd hx) (by have := hj; omega)) (z_ka0 (z_ok_sd hx) hj _) rfl rfl cv_X2_54 (z_room hR ⟨Nat.le_of_ble_eq_true rfl, Nat.le_of_ble_eq_true rfl⟩) ⟨rfl, rfl⟩ rfl rfl (Nat.le_of_ble_eq_true rfl) dX2_addMark_44 ?_
      refine z_iinc hx hn 5 (lv' := [(5, .int (zi (x5 + (-1)))), (0, .ref (z_ad (z_g C) (8 * j))), (1, .int (zi x1)), (2, .int (zi x2)), (3, .int (zi x3)), (4, .int (zi x4))]) dX2_addMark_47 rfl (by decide) rfl ?_
      refine z_goto hx (tgt := 18) dX2_addMark_50 (by decide) ?_
      refine z_sub [1, 2, 3, 4, 5, 0] rfl ?_
      exact hK18 σ1 x1 x2 x3 x4 (x5 + (-1)) h

theorem w_X2_addMark_l18 {C : zC} (hx : z_ok C cX2_addMark RX2 0) (hn : z_nL C = 6) (hR : z_R C = rm_X2_addMark) {rr : Int × zS} (hq : z_fin C (some .int) (z_QI (z_g C) rr.1 rr.2)) {j : Nat} (hj : j < 6) : ∀ (n : Nat) (σ : zS) (x1 : Int) (x2 : Int) (x3 : Int) (x4 : Int) (x5 : Int) (_ : f_X2_addMark_l18 j n σ x1 x2 x3 x4 x5 = some rr), z_W C σ 18 [(0, .ref (z_ad (z_g C) (8 * j))), (1, .int (zi x1)), (2, .int (zi x2)), (3, .int (zi x3)), (4, .int (zi x4)), (5, .int (zi x5))] [] := by
  intro n
  induction n with
  | zero => intro σ x1 x2 x3 x4 x5 h; cases h
  | succ n ih =>
    intro σ x1 x2 x3 x4 x5 h
    exact w_X2_addMark_b18 hx hn hR hq hj ih σ x1 x2 x3 x4 x5 h
theorem w_X2_addMark {C : zC} (hx : z_ok C cX2_addMark RX2 0) (hn : z_nL C = 6) (hR : z_R C = rm_X2_addMark) {rr : Int × zS} (hq : z_fin C (some .int) (z_QI (z_g C) rr.1 rr.2)) {j : Nat} (hj : j < 6) (σ : zS) (x1 : Int) (x2 : Int) (x3 : Int) (x4 : Int) (h : f_X2_addMark j σ x1 x2 x3 x4 = some rr) : z_W C σ 0 [(0, .ref (z_ad (z_g C) (8 * j))), (1, .int (zi x1)), (2, .int (zi x2)), (3, .int (zi x3)), (4, .int (zi x4))] [] := by
  unfold f_X2_addMark at h
  refine z_aload_n hx 0 dX2_addMark_0 rfl ?_
  refine gf_X2_marks hx wf_X2_35 hj dX2_addMark_1 ?_
  refine z_bipush hx (n := 20) dX2_addMark_4 rfl ?_
  refine z_icmp_lt hx (tgt := 12) dX2_addMark_6 (by decide) h (fun h => ⟨h, by decide⟩) (fun hc h => ?_) (fun hc h => ?_)
  · refine z_aload_n hx 0 dX2_addMark_12 rfl ?_
    refine gf_X2_marks hx wf_X2_35 hj dX2_addMark_13 ?_
    refine z_istore hx hn (lv' := [(5, .int (zi (σ (8 * j) 7))), (0, .ref (z_ad (z_g C) (8 * j))), (1, .int (zi x1)), (2, .int (zi x2)), (3, .int (zi x3)), (4, .int (zi x4))]) dX2_addMark_16 (by decide) rfl ?_
    refine z_sub [1, 2, 3, 4, 5, 0] rfl ?_
    exact w_X2_addMark_l18 hx hn hR hq hj z_fuel σ x1 x2 x3 x4 (σ (8 * j) 7) h
  · refine z_bipush hx (n := (-3)) dX2_addMark_9 rfl ?_
    cases h
    exact z_iret hx hq dX2_addMark_11

theorem met_X2_addMark (l : Launch) (g : zG) (hg : g.1 = 0) {j : Nat} (hj : j < 6) {σ : zS} {x1 : Int} {x2 : Int} {x3 : Int} {x4 : Int} {rr : Int × zS} (h : f_X2_addMark j σ x1 x2 x3 x4 = some rr) : z_Met l yX2_addMark cX2_addMark 6 (some .int) rm_X2_addMark g [.ref (z_ad (g) (8 * j)), .int (zi x1), .int (zi x2), .int (zi x3), .int (zi x4)] σ (z_QI g rr.1 rr.2) := by
  refine z_enter (own := RX2) (sd := 0) (lv0 := [(0, .ref (z_ad (g) (8 * j))), (1, .int (zi x1)), (2, .int (zi x2)), (3, .int (zi x3)), (4, .int (zi x4))]) (by decide) rfl (Nat.le_of_ble_eq_true rfl) hg rfl (fun C hx hl hgC hR hn hq => ?_)
  subst hgC
  refine z_sub [0, 1, 2, 3, 4] rfl ?_
  exact w_X2_addMark hx hn hR hq hj σ x1 x2 x3 x4 h
theorem dX2_removeMark_0 : decode cX2_removeMark 0 = .ok (.aload_n 0, 1) := by decide +kernel
theorem dX2_removeMark_1 : decode cX2_removeMark 1 = .ok (.iload_n 1, 1) := by decide +kernel
theorem dX2_removeMark_2 : decode cX2_removeMark 2 = .ok (.invokevirtual 58, 3) := by decide +kernel
theorem dX2_removeMark_5 : decode cX2_removeMark 5 = .ok (.ifCond .ne 4, 3) := by decide +kernel
theorem dX2_removeMark_8 : decode cX2_removeMark 8 = .ok (.return_, 1) := by decide +kernel
theorem dX2_removeMark_9 : decode cX2_removeMark 9 = .ok (.iload_n 1, 1) := by decide +kernel
theorem dX2_removeMark_10 : decode cX2_removeMark 10 = .ok (.istore_n 2, 1) := by decide +kernel
theorem dX2_removeMark_11 : decode cX2_removeMark 11 = .ok (.iload_n 2, 1) := by decide +kernel
theorem dX2_removeMark_12 : decode cX2_removeMark 12 = .ok (.iconst 1, 1) := by decide +kernel
theorem dX2_removeMark_13 : decode cX2_removeMark 13 = .ok (.iadd, 1) := by decide +kernel
theorem dX2_removeMark_14 : decode cX2_removeMark 14 = .ok (.aload_n 0, 1) := by decide +kernel
theorem dX2_removeMark_15 : decode cX2_removeMark 15 = .ok (.getfield 35, 3) := by decide +kernel
theorem dX2_removeMark_18 : decode cX2_removeMark 18 = .ok (.if_icmp .ge 18, 3) := by decide +kernel
theorem dX2_removeMark_21 : decode cX2_removeMark 21 = .ok (.aload_n 0, 1) := by decide +kernel
theorem dX2_removeMark_22 : decode cX2_removeMark 22 = .ok (.aload_n 0, 1) := by decide +kernel
theorem dX2_removeMark_23 : decode cX2_removeMark 23 = .ok (.iload_n 2, 1) := by decide +kernel
theorem dX2_removeMark_24 : decode cX2_removeMark 24 = .ok (.iconst 1, 1) := by decide +kernel
theorem dX2_removeMark_25 : decode cX2_removeMark 25 = .ok (.iadd, 1) := by decide +kernel
theorem dX2_removeMark_26 : decode cX2_removeMark 26 = .ok (.iload_n 2, 1) := by decide +kernel
theorem dX2_removeMark_27 : decode cX2_removeMark 27 = .ok (.invokevirtual 54, 3) := by decide +kernel
theorem dX2_removeMark_30 : decode cX2_removeMark 30 = .ok (.iinc 2 1, 3) := by decide +kernel
theorem dX2_removeMark_33 : decode cX2_removeMark 33 = .ok (.goto (-22), 3) := by decide +kernel
theorem dX2_removeMark_36 : decode cX2_removeMark 36 = .ok (.aload_n 0, 1) := by decide +kernel
theorem dX2_removeMark_37 : decode cX2_removeMark 37 = .ok (.dup, 1) := by decide +kernel
theorem dX2_removeMark_38 : decode cX2_removeMark 38 = .ok (.getfield 35, 3) := by decide +kernel
theorem dX2_removeMark_41 : decode cX2_removeMark 41 = .ok (.iconst 1, 1) := by decide +kernel
theorem dX2_removeMark_42 : decode cX2_removeMark 42 = .ok (.isub, 1) := by decide +kernel
theorem dX2_removeMark_43 : decode cX2_removeMark 43 = .ok (.putfield 35, 3) := by decide +kernel
theorem dX2_removeMark_46 : decode cX2_removeMark 46 = .ok (.return_, 1) := by decide +kernel
abbrev rm_X2_removeMark : Room := { frames := 1, cells := 0, slots := 0, locals := 23 }
theorem w_X2_removeMark_b11 {C : zC} (hx : z_ok C cX2_removeMark RX2 0) (hn : z_nL C = 3) (hR : z_R C = rm_X2_removeMark) {rr : Unit × zS} (hq : z_fin C none (z_QV (z_g C) rr.2)) {j : Nat} (hj : j < 6) {K11 : zS → Int → Option (Unit × zS)} (hK11 : ∀ (σ : zS) (x2 : Int) , K11 σ x2 = some rr → z_W C σ 11 [(0, .ref (z_ad (z_g C) (8 * j))), (2, .int (zi x2))] []) (σ : zS) (x2 : Int) (h : f_X2_removeMark_b11 j K11 σ x2 = some rr) : z_W C σ 11 [(0, .ref (z_ad (z_g C) (8 * j))), (2, .int (zi x2))] [] := by
  unfold f_X2_removeMark_b11 at h
  refine z_iload_n hx 1 dX2_removeMark_11 rfl ?_
  refine z_iconst hx (n := 1) dX2_removeMark_12 ?_
  refine z_iadd hx dX2_removeMark_13 ?_
  refine z_aload_n hx 0 dX2_removeMark_14 rfl ?_
  refine gf_X2_marks hx wf_X2_35 hj dX2_removeMark_15 ?_
  refine z_icmp_ge hx (tgt := 36) dX2_removeMark_18 (by decide) h (fun h => h) (fun hc h => ?_) (fun hc h => ?_)
  · refine z_aload_n hx 0 dX2_removeMark_36 rfl ?_
    refine z_dup hx dX2_removeMark_37 rfl ?_
    refine gf_X2_marks hx wf_X2_35 hj dX2_removeMark_38 ?_
    refine z_iconst hx (n := 1) dX2_removeMark_41 ?_
    refine z_isub hx dX2_removeMark_42 ?_
    refine pf_X2_marks hx wf_X2_35 hj dX2_removeMark_43 h (fun σ1 h => ?_)
    cases h
    exact z_vret hx hq dX2_removeMark_46
  · refine z_aload_n hx 0 dX2_removeMark_21 rfl ?_
    refine z_aload_n hx 0 dX2_removeMark_22 rfl ?_
    refine z_iload_n hx 1 dX2_removeMark_23 rfl ?_
    refine z_iconst hx (n := 1) dX2_removeMark_24 ?_
    refine z_iadd hx dX2_removeMark_25 ?_
    refine z_iload_n hx 1 dX2_removeMark_26 rfl ?_
    obtain ⟨⟨⟩, σ2, h27, h⟩ := z_bind_some h
    refine z_callv hx (As := [.ref (z_ad (z_g C) (8 * j)), .int (zi (x2 + 1)), .int (zi x2)]) (k := 8 * j) (met_X2_copyMark (z_l C) (z_g C) (z_ok_sd hx) hj hj h27) (z_lt0 (z_ok_sd hx) (by have := hj; omega)) (z_ka0 (z_ok_sd hx) hj _) rfl rfl cv_X2_54 (z_room hR ⟨Nat.le_of_ble_eq_true rfl, Nat.le_of_ble_eq_true rfl⟩) ⟨rfl, rfl⟩ rfl rfl (Nat.le_of_ble_eq_true rfl) dX2_removeMark_27 ?_
    refine z_iinc hx hn 1 (lv' := [(2, .int (zi (x2 + 1))), (0, .ref (z_ad (z_g C) (8 * j)))]) dX2_removeMark_30 rfl (by decide) rfl ?_
    refine z_goto hx (tgt := 11) dX2_removeMark_33 (by decide) ?_
    refine z_sub [1, 0] rfl ?_
    exact hK11 σ2 (x2 + 1) h

theorem w_X2_removeMark_l11 {C : zC} (hx : z_ok C cX2_removeMark RX2 0) (hn : z_nL C = 3) (hR : z_R C = rm_X2_removeMark) {rr : Unit × zS} (hq : z_fin C none (z_QV (z_g C) rr.2)) {j : Nat} (hj : j < 6) : ∀ (n : Nat) (σ : zS) (x2 : Int) (_ : f_X2_removeMark_l11 j n σ x2 = some rr), z_W C σ 11 [(0, .ref (z_ad (z_g C) (8 * j))), (2, .int (zi x2))] [] := by
  intro n
  induction n with
  | zero => intro σ x2 h; cases h
  | succ n ih =>
    intro σ x2 h
    exact w_X2_removeMark_b11 hx hn hR hq hj ih σ x2 h
theorem w_X2_removeMark {C : zC} (hx : z_ok C cX2_removeMark RX2 0) (hn : z_nL C = 3) (hR : z_R C = rm_X2_removeMark) {rr : Unit × zS} (hq : z_fin C none (z_QV (z_g C) rr.2)) {j : Nat} (hj : j < 6) (σ : zS) (x1 : Int) (h : f_X2_removeMark j σ x1 = some rr) : z_W C σ 0 [(0, .ref (z_ad (z_g C) (8 * j))), (1, .int (zi x1))] [] := by
  unfold f_X2_removeMark at h
  refine z_aload_n hx 0 dX2_removeMark_0 rfl ?_
  refine z_iload_n hx 1 dX2_removeMark_1 rfl ?_
  obtain ⟨r2, σ1, h2, h⟩ := z_bind_some h
  refine z_calli hx (As := [.int (zi x1)]) (k := 8 * j) (met_X2_hasMark (z_l C) (z_g C) (z_ok_sd hx) hj h2) (z_lt0 (z_ok_sd hx) (by have := hj; omega)) (z_ka0 (z_ok_sd hx) hj _) rfl rfl cv_X2_58 (z_room hR ⟨Nat.le_of_ble_eq_true rfl, Nat.le_of_ble_eq_true rfl⟩) ⟨rfl, rfl⟩ rfl rfl (Nat.le_of_ble_eq_true rfl) dX2_removeMark_2 ?_
  refine z_if_ne hx (tgt := 9) dX2_removeMark_5 (by decide) h (fun h => h) (fun hc h => ?_) (fun hc h => ?_)
  · refine z_iload_n hx 1 dX2_removeMark_9 rfl ?_
    refine z_istore_n hx hn (lv' := [(2, .int (zi x1)), (0, .ref (z_ad (z_g C) (8 * j))), (1, .int (zi x1))]) dX2_removeMark_10 (by decide) rfl ?_
    refine z_sub [1, 0] rfl ?_
    exact w_X2_removeMark_l11 hx hn hR hq hj z_fuel σ1 x1 h
  · cases h
    exact z_vret hx hq dX2_removeMark_8

theorem met_X2_removeMark (l : Launch) (g : zG) (hg : g.1 = 0) {j : Nat} (hj : j < 6) {σ : zS} {x1 : Int} {rr : Unit × zS} (h : f_X2_removeMark j σ x1 = some rr) : z_Met l yX2_removeMark cX2_removeMark 3 none rm_X2_removeMark g [.ref (z_ad (g) (8 * j)), .int (zi x1)] σ (z_QV g rr.2) := by
  refine z_enter (own := RX2) (sd := 0) (lv0 := [(0, .ref (z_ad (g) (8 * j))), (1, .int (zi x1))]) (by decide) rfl (Nat.le_of_ble_eq_true rfl) hg rfl (fun C hx hl hgC hR hn hq => ?_)
  subst hgC
  refine z_sub [0, 1] rfl ?_
  exact w_X2_removeMark hx hn hR hq hj σ x1 h
theorem dX2_numberOfMark_0 : decode cX2_numberOfMark 0 = .ok (.aload_n 0, 1) := by decide +kernel
theorem dX2_numberOfMark_1 : decode cX2_numberOfMark 1 = .ok (.iload_n 1, 1) := by decide +kernel
theorem dX2_numberOfMark_2 : decode cX2_numberOfMark 2 = .ok (.invokevirtual 58, 3) := by decide +kernel
theorem dX2_numberOfMark_5 : decode cX2_numberOfMark 5 = .ok (.ifCond .ne 5, 3) := by decide +kernel
theorem dX2_numberOfMark_8 : decode cX2_numberOfMark 8 = .ok (.iconst (-1), 1) := by decide +kernel
theorem dX2_numberOfMark_9 : decode cX2_numberOfMark 9 = .ok (.ireturn, 1) := by decide +kernel
theorem dX2_numberOfMark_10 : decode cX2_numberOfMark 10 = .ok (.iload_n 2, 1) := by decide +kernel
theorem dX2_numberOfMark_11 : decode cX2_numberOfMark 11 = .ok (.tableswitch 76 0 4 #[33, 40, 47, 54, 61], 33) := by decide +kernel
theorem dX2_numberOfMark_44 : decode cX2_numberOfMark 44 = .ok (.aload_n 0, 1) := by decide +kernel
theorem dX2_numberOfMark_45 : decode cX2_numberOfMark 45 = .ok (.getfield 19, 3) := by decide +kernel
theorem dX2_numberOfMark_48 : decode cX2_numberOfMark 48 = .ok (.iload_n 1, 1) := by decide +kernel
theorem dX2_numberOfMark_49 : decode cX2_numberOfMark 49 = .ok (.iaload, 1) := by decide +kernel
theorem dX2_numberOfMark_50 : decode cX2_numberOfMark 50 = .ok (.ireturn, 1) := by decide +kernel
theorem dX2_numberOfMark_51 : decode cX2_numberOfMark 51 = .ok (.aload_n 0, 1) := by decide +kernel
theorem dX2_numberOfMark_52 : decode cX2_numberOfMark 52 = .ok (.getfield 22, 3) := by decide +kernel
theorem dX2_numberOfMark_55 : decode cX2_numberOfMark 55 = .ok (.iload_n 1, 1) := by decide +kernel
theorem dX2_numberOfMark_56 : decode cX2_numberOfMark 56 = .ok (.iaload, 1) := by decide +kernel
theorem dX2_numberOfMark_57 : decode cX2_numberOfMark 57 = .ok (.ireturn, 1) := by decide +kernel
theorem dX2_numberOfMark_58 : decode cX2_numberOfMark 58 = .ok (.aload_n 0, 1) := by decide +kernel
theorem dX2_numberOfMark_59 : decode cX2_numberOfMark 59 = .ok (.getfield 25, 3) := by decide +kernel
theorem dX2_numberOfMark_62 : decode cX2_numberOfMark 62 = .ok (.iload_n 1, 1) := by decide +kernel
theorem dX2_numberOfMark_63 : decode cX2_numberOfMark 63 = .ok (.iaload, 1) := by decide +kernel
theorem dX2_numberOfMark_64 : decode cX2_numberOfMark 64 = .ok (.ireturn, 1) := by decide +kernel
theorem dX2_numberOfMark_65 : decode cX2_numberOfMark 65 = .ok (.aload_n 0, 1) := by decide +kernel
theorem dX2_numberOfMark_66 : decode cX2_numberOfMark 66 = .ok (.getfield 28, 3) := by decide +kernel
theorem dX2_numberOfMark_69 : decode cX2_numberOfMark 69 = .ok (.iload_n 1, 1) := by decide +kernel
theorem dX2_numberOfMark_70 : decode cX2_numberOfMark 70 = .ok (.iaload, 1) := by decide +kernel
theorem dX2_numberOfMark_71 : decode cX2_numberOfMark 71 = .ok (.ireturn, 1) := by decide +kernel
theorem dX2_numberOfMark_72 : decode cX2_numberOfMark 72 = .ok (.aload_n 0, 1) := by decide +kernel
theorem dX2_numberOfMark_73 : decode cX2_numberOfMark 73 = .ok (.getfield 31, 3) := by decide +kernel
theorem dX2_numberOfMark_76 : decode cX2_numberOfMark 76 = .ok (.iload_n 1, 1) := by decide +kernel
theorem dX2_numberOfMark_77 : decode cX2_numberOfMark 77 = .ok (.baload, 1) := by decide +kernel
theorem dX2_numberOfMark_78 : decode cX2_numberOfMark 78 = .ok (.ifCond .eq 7, 3) := by decide +kernel
theorem dX2_numberOfMark_81 : decode cX2_numberOfMark 81 = .ok (.iconst 1, 1) := by decide +kernel
theorem dX2_numberOfMark_82 : decode cX2_numberOfMark 82 = .ok (.goto 4, 3) := by decide +kernel
theorem dX2_numberOfMark_85 : decode cX2_numberOfMark 85 = .ok (.iconst 0, 1) := by decide +kernel
theorem dX2_numberOfMark_86 : decode cX2_numberOfMark 86 = .ok (.ireturn, 1) := by decide +kernel
theorem dX2_numberOfMark_87 : decode cX2_numberOfMark 87 = .ok (.iconst (-1), 1) := by decide +kernel
theorem dX2_numberOfMark_88 : decode cX2_numberOfMark 88 = .ok (.ireturn, 1) := by decide +kernel
abbrev rm_X2_numberOfMark : Room := { frames := 1, cells := 0, slots := 0, locals := 21 }
theorem w_X2_numberOfMark_b86 {C : zC} (hx : z_ok C cX2_numberOfMark RX2 0) (hn : z_nL C = 3) (hR : z_R C = rm_X2_numberOfMark) {rr : Int × zS} (hq : z_fin C (some .int) (z_QI (z_g C) rr.1 rr.2)) {j : Nat} (hj : j < 6) (σ : zS) (s0 : Int) (h : f_X2_numberOfMark_b86 j σ s0 = some rr) : z_W C σ 86 [] [.int (zi s0)] := by
  unfold f_X2_numberOfMark_b86 at h
  cases h
  exact z_iret hx hq dX2_numberOfMark_86

theorem w_X2_numberOfMark {C : zC} (hx : z_ok C cX2_numberOfMark RX2 0) (hn : z_nL C = 3) (hR : z_R C = rm_X2_numberOfMark) {rr : Int × zS} (hq : z_fin C (some .int) (z_QI (z_g C) rr.1 rr.2)) {j : Nat} (hj : j < 6) (σ : zS) (x1 : Int) (x2 : Int) (h : f_X2_numberOfMark j σ x1 x2 = some rr) : z_W C σ 0 [(0, .ref (z_ad (z_g C) (8 * j))), (1, .int (zi x1)), (2, .int (zi x2))] [] := by
  unfold f_X2_numberOfMark at h
  refine z_aload_n hx 0 dX2_numberOfMark_0 rfl ?_
  refine z_iload_n hx 1 dX2_numberOfMark_1 rfl ?_
  obtain ⟨r2, σ1, h2, h⟩ := z_bind_some h
  refine z_calli hx (As := [.int (zi x1)]) (k := 8 * j) (met_X2_hasMark (z_l C) (z_g C) (z_ok_sd hx) hj h2) (z_lt0 (z_ok_sd hx) (by have := hj; omega)) (z_ka0 (z_ok_sd hx) hj _) rfl rfl cv_X2_58 (z_room hR ⟨Nat.le_of_ble_eq_true rfl, Nat.le_of_ble_eq_true rfl⟩) ⟨rfl, rfl⟩ rfl rfl (Nat.le_of_ble_eq_true rfl) dX2_numberOfMark_2 ?_
  refine z_if_ne hx (tgt := 10) dX2_numberOfMark_5 (by decide) h (fun h => h) (fun hc h => ?_) (fun hc h => ?_)
  · refine z_iload_n hx 2 dX2_numberOfMark_10 rfl ?_
    obtain ⟨hr, h⟩ := z_gd h
    by_cases hc0 : x2 = 0
    · rw [if_pos hc0] at h
      refine z_tswIn hx (tgt := 44) (off := 33) dX2_numberOfMark_11 hr (by omega) (by omega) (by rw [hc0]; rfl) (by decide) ?_
      refine z_aload_n hx 0 dX2_numberOfMark_44 rfl ?_
      refine gf_X2_kinds hx wf_X2_19 hj dX2_numberOfMark_45 ?_
      refine z_iload_n hx 1 dX2_numberOfMark_48 rfl ?_
      refine z_iald hx (n := 20) (z_lt0 (z_ok_sd hx) (by have := hj; omega)) (z_ka2 (z_ok_sd hx) hj _) rfl (by decide) dX2_numberOfMark_49 h (fun h => ?_)
      cases h
      exact z_iret hx hq dX2_numberOfMark_50
    · rw [if_neg hc0] at h
      by_cases hc1 : x2 = 1
      · rw [if_pos hc1] at h
        refine z_tswIn hx (tgt := 51) (off := 40) dX2_numberOfMark_11 hr (by omega) (by omega) (by rw [hc1]; rfl) (by decide) ?_
        refine z_aload_n hx 0 dX2_numberOfMark_51 rfl ?_
        refine gf_X2_firsts hx wf_X2_22 hj dX2_numberOfMark_52 ?_
        refine z_iload_n hx 1 dX2_numberOfMark_55 rfl ?_
        refine z_iald hx (n := 20) (z_lt0 (z_ok_sd hx) (by have := hj; omega)) (z_ka3 (z_ok_sd hx) hj _) rfl (by decide) dX2_numberOfMark_56 h (fun h => ?_)
        cases h
        exact z_iret hx hq dX2_numberOfMark_57
      · rw [if_neg hc1] at h
        by_cases hc2 : x2 = 2
        · rw [if_pos hc2] at h
          refine z_tswIn hx (tgt := 58) (off := 47) dX2_numberOfMark_11 hr (by omega) (by omega) (by rw [hc2]; rfl) (by decide) ?_
          refine z_aload_n hx 0 dX2_numberOfMark_58 rfl ?_
          refine gf_X2_ends hx wf_X2_25 hj dX2_numberOfMark_59 ?_
          refine z_iload_n hx 1 dX2_numberOfMark_62 rfl ?_
          refine z_iald hx (n := 20) (z_lt0 (z_ok_sd hx) (by have := hj; omega)) (z_ka4 (z_ok_sd hx) hj _) rfl (by decide) dX2_numberOfMark_63 h (fun h => ?_)
          cases h
          exact z_iret hx hq dX2_numberOfMark_64
        · rw [if_neg hc2] at h
          by_cases hc3 : x2 = 3
          · rw [if_pos hc3] at h
            refine z_tswIn hx (tgt := 65) (off := 54) dX2_numberOfMark_11 hr (by omega) (by omega) (by rw [hc3]; rfl) (by decide) ?_
            refine z_aload_n hx 0 dX2_numberOfMark_65 rfl ?_
            refine gf_X2_doubts hx wf_X2_28 hj dX2_numberOfMark_66 ?_
            refine z_iload_n hx 1 dX2_numberOfMark_69 rfl ?_
            refine z_iald hx (n := 20) (z_lt0 (z_ok_sd hx) (by have := hj; omega)) (z_ka5 (z_ok_sd hx) hj _) rfl (by decide) dX2_numberOfMark_70 h (fun h => ?_)
            cases h
            exact z_iret hx hq dX2_numberOfMark_71
          · rw [if_neg hc3] at h
            by_cases hc4 : x2 = 4
            · rw [if_pos hc4] at h
              refine z_tswIn hx (tgt := 72) (off := 61) dX2_numberOfMark_11 hr (by omega) (by omega) (by rw [hc4]; rfl) (by decide) ?_
              refine z_aload_n hx 0 dX2_numberOfMark_72 rfl ?_
              refine gf_X2_held hx wf_X2_31 hj dX2_numberOfMark_73 ?_
              refine z_iload_n hx 1 dX2_numberOfMark_76 rfl ?_
              refine z_zald hx (n := 20) (z_lt0 (z_ok_sd hx) (by have := hj; omega)) (z_ka6 (z_ok_sd hx) hj _) rfl (by decide) dX2_numberOfMark_77 h (fun h => ?_)
              refine z_if_eq hx (tgt := 85) dX2_numberOfMark_78 (by decide) h (fun h => h) (fun hc h => ?_) (fun hc h => ?_)
              · refine z_iconst hx (n := 0) dX2_numberOfMark_85 ?_
                refine z_sub [] rfl ?_
                exact w_X2_numberOfMark_b86 hx hn hR hq hj σ1 0 h
              · refine z_iconst hx (n := 1) dX2_numberOfMark_81 ?_
                refine z_goto hx (tgt := 86) dX2_numberOfMark_82 (by decide) ?_
                refine z_sub [] rfl ?_
                exact w_X2_numberOfMark_b86 hx hn hR hq hj σ1 1 h
            · rw [if_neg hc4] at h
              refine z_tswOut hx (tgt := 87) dX2_numberOfMark_11 hr (by omega) (by decide) ?_
              refine z_iconst hx (n := (-1)) dX2_numberOfMark_87 ?_
              cases h
              exact z_iret hx hq dX2_numberOfMark_88
  · refine z_iconst hx (n := (-1)) dX2_numberOfMark_8 ?_
    cases h
    exact z_iret hx hq dX2_numberOfMark_9

theorem met_X2_numberOfMark (l : Launch) (g : zG) (hg : g.1 = 0) {j : Nat} (hj : j < 6) {σ : zS} {x1 : Int} {x2 : Int} {rr : Int × zS} (h : f_X2_numberOfMark j σ x1 x2 = some rr) : z_Met l yX2_numberOfMark cX2_numberOfMark 3 (some .int) rm_X2_numberOfMark g [.ref (z_ad (g) (8 * j)), .int (zi x1), .int (zi x2)] σ (z_QI g rr.1 rr.2) := by
  refine z_enter (own := RX2) (sd := 0) (lv0 := [(0, .ref (z_ad (g) (8 * j))), (1, .int (zi x1)), (2, .int (zi x2))]) (by decide) rfl (Nat.le_of_ble_eq_true rfl) hg rfl (fun C hx hl hgC hR hn hq => ?_)
  subst hgC
  refine z_sub [0, 1, 2] rfl ?_
  exact w_X2_numberOfMark hx hn hR hq hj σ x1 x2 h
theorem dX2_hasFillerOfDoubt_0 : decode cX2_hasFillerOfDoubt 0 = .ok (.iconst 0, 1) := by decide +kernel
theorem dX2_hasFillerOfDoubt_1 : decode cX2_hasFillerOfDoubt 1 = .ok (.istore_n 2, 1) := by decide +kernel
theorem dX2_hasFillerOfDoubt_2 : decode cX2_hasFillerOfDoubt 2 = .ok (.iload_n 2, 1) := by decide +kernel
theorem dX2_hasFillerOfDoubt_3 : decode cX2_hasFillerOfDoubt 3 = .ok (.aload_n 0, 1) := by decide +kernel
theorem dX2_hasFillerOfDoubt_4 : decode cX2_hasFillerOfDoubt 4 = .ok (.getfield 35, 3) := by decide +kernel
theorem dX2_hasFillerOfDoubt_7 : decode cX2_hasFillerOfDoubt 7 = .ok (.if_icmp .ge 30, 3) := by decide +kernel
theorem dX2_hasFillerOfDoubt_10 : decode cX2_hasFillerOfDoubt 10 = .ok (.aload_n 0, 1) := by decide +kernel
theorem dX2_hasFillerOfDoubt_11 : decode cX2_hasFillerOfDoubt 11 = .ok (.getfield 19, 3) := by decide +kernel
theorem dX2_hasFillerOfDoubt_14 : decode cX2_hasFillerOfDoubt 14 = .ok (.iload_n 2, 1) := by decide +kernel
theorem dX2_hasFillerOfDoubt_15 : decode cX2_hasFillerOfDoubt 15 = .ok (.iaload, 1) := by decide +kernel
theorem dX2_hasFillerOfDoubt_16 : decode cX2_hasFillerOfDoubt 16 = .ok (.ifCond .ne 15, 3) := by decide +kernel
theorem dX2_hasFillerOfDoubt_19 : decode cX2_hasFillerOfDoubt 19 = .ok (.aload_n 0, 1) := by decide +kernel
theorem dX2_hasFillerOfDoubt_20 : decode cX2_hasFillerOfDoubt 20 = .ok (.getfield 28, 3) := by decide +kernel
theorem dX2_hasFillerOfDoubt_23 : decode cX2_hasFillerOfDoubt 23 = .ok (.iload_n 2, 1) := by decide +kernel
theorem dX2_hasFillerOfDoubt_24 : decode cX2_hasFillerOfDoubt 24 = .ok (.iaload, 1) := by decide +kernel
theorem dX2_hasFillerOfDoubt_25 : decode cX2_hasFillerOfDoubt 25 = .ok (.iload_n 1, 1) := by decide +kernel
theorem dX2_hasFillerOfDoubt_26 : decode cX2_hasFillerOfDoubt 26 = .ok (.if_icmp .ne 5, 3) := by decide +kernel
theorem dX2_hasFillerOfDoubt_29 : decode cX2_hasFillerOfDoubt 29 = .ok (.iconst 1, 1) := by decide +kernel
theorem dX2_hasFillerOfDoubt_30 : decode cX2_hasFillerOfDoubt 30 = .ok (.ireturn, 1) := by decide +kernel
theorem dX2_hasFillerOfDoubt_31 : decode cX2_hasFillerOfDoubt 31 = .ok (.iinc 2 1, 3) := by decide +kernel
theorem dX2_hasFillerOfDoubt_34 : decode cX2_hasFillerOfDoubt 34 = .ok (.goto (-32), 3) := by decide +kernel
theorem dX2_hasFillerOfDoubt_37 : decode cX2_hasFillerOfDoubt 37 = .ok (.iconst 0, 1) := by decide +kernel
theorem dX2_hasFillerOfDoubt_38 : decode cX2_hasFillerOfDoubt 38 = .ok (.ireturn, 1) := by decide +kernel
abbrev rm_X2_hasFillerOfDoubt : Room := { frames := 0, cells := 0, slots := 0, locals := 0 }
theorem w_X2_hasFillerOfDoubt_b31 {C : zC} (hx : z_ok C cX2_hasFillerOfDoubt RX2 0) (hn : z_nL C = 3) (hR : z_R C = rm_X2_hasFillerOfDoubt) {rr : Int × zS} (hq : z_fin C (some .boolean) (z_QI (z_g C) rr.1 rr.2)) {j : Nat} (hj : j < 6) {K2 : zS → Int → Int → Option (Int × zS)} (hK2 : ∀ (σ : zS) (x1 : Int) (x2 : Int) , K2 σ x1 x2 = some rr → z_W C σ 2 [(0, .ref (z_ad (z_g C) (8 * j))), (1, .int (zi x1)), (2, .int (zi x2))] []) (σ : zS) (x1 : Int) (x2 : Int) (h : f_X2_hasFillerOfDoubt_b31 j K2 σ x1 x2 = some rr) : z_W C σ 31 [(0, .ref (z_ad (z_g C) (8 * j))), (1, .int (zi x1)), (2, .int (zi x2))] [] := by
  unfold f_X2_hasFillerOfDoubt_b31 at h
  refine z_iinc hx hn 2 (lv' := [(2, .int (zi (x2 + 1))), (0, .ref (z_ad (z_g C) (8 * j))), (1, .int (zi x1))]) dX2_hasFillerOfDoubt_31 rfl (by decide) rfl ?_
  refine z_goto hx (tgt := 2) dX2_hasFillerOfDoubt_34 (by decide) ?_
  refine z_sub [1, 2, 0] rfl ?_
  exact hK2 σ x1 (x2 + 1) h

theorem w_X2_hasFillerOfDoubt_b2 {C : zC} (hx : z_ok C cX2_hasFillerOfDoubt RX2 0) (hn : z_nL C = 3) (hR : z_R C = rm_X2_hasFillerOfDoubt) {rr : Int × zS} (hq : z_fin C (some .boolean) (z_QI (z_g C) rr.1 rr.2)) {j : Nat} (hj : j < 6) {K2 : zS → Int → Int → Option (Int × zS)} (hK2 : ∀ (σ : zS) (x1 : Int) (x2 : Int) , K2 σ x1 x2 = some rr → z_W C σ 2 [(0, .ref (z_ad (z_g C) (8 * j))), (1, .int (zi x1)), (2, .int (zi x2))] []) (σ : zS) (x1 : Int) (x2 : Int) (h : f_X2_hasFillerOfDoubt_b2 j K2 σ x1 x2 = some rr) : z_W C σ 2 [(0, .ref (z_ad (z_g C) (8 * j))), (1, .int (zi x1)), (2, .int (zi x2))] [] := by
  unfold f_X2_hasFillerOfDoubt_b2 at h
  refine z_iload_n hx 2 dX2_hasFillerOfDoubt_2 rfl ?_
  refine z_aload_n hx 0 dX2_hasFillerOfDoubt_3 rfl ?_
  refine gf_X2_marks hx wf_X2_35 hj dX2_hasFillerOfDoubt_4 ?_
  refine z_icmp_ge hx (tgt := 37) dX2_hasFillerOfDoubt_7 (by decide) h (fun h => h) (fun hc h => ?_) (fun hc h => ?_)
  · refine z_iconst hx (n := 0) dX2_hasFillerOfDoubt_37 ?_
    cases h
    exact z_zret hx (by decide) hq dX2_hasFillerOfDoubt_38
  · refine z_aload_n hx 0 dX2_hasFillerOfDoubt_10 rfl ?_
    refine gf_X2_kinds hx wf_X2_19 hj dX2_hasFillerOfDoubt_11 ?_
    refine z_iload_n hx 2 dX2_hasFillerOfDoubt_14 rfl ?_
    refine z_iald hx (n := 20) (z_lt0 (z_ok_sd hx) (by have := hj; omega)) (z_ka2 (z_ok_sd hx) hj _) rfl (by decide) dX2_hasFillerOfDoubt_15 h (fun h => ?_)
    refine z_if_ne hx (tgt := 31) dX2_hasFillerOfDoubt_16 (by decide) h (fun h => h) (fun hc h => ?_) (fun hc h => ?_)
    · refine z_sub [0, 1, 2] rfl ?_
      exact w_X2_hasFillerOfDoubt_b31 hx hn hR hq hj hK2 σ x1 x2 h
    · refine z_aload_n hx 0 dX2_hasFillerOfDoubt_19 rfl ?_
      refine gf_X2_doubts hx wf_X2_28 hj dX2_hasFillerOfDoubt_20 ?_
      refine z_iload_n hx 2 dX2_hasFillerOfDoubt_23 rfl ?_
      refine z_iald hx (n := 20) (z_lt0 (z_ok_sd hx) (by have := hj; omega)) (z_ka5 (z_ok_sd hx) hj _) rfl (by decide) dX2_hasFillerOfDoubt_24 h (fun h => ?_)
      refine z_iload_n hx 1 dX2_hasFillerOfDoubt_25 rfl ?_
      refine z_icmp_ne hx (tgt := 31) dX2_hasFillerOfDoubt_26 (by decide) h (fun h => h) (fun hc h => ?_) (fun hc h => ?_)
      · refine z_sub [0, 1, 2] rfl ?_
        exact w_X2_hasFillerOfDoubt_b31 hx hn hR hq hj hK2 σ x1 x2 h
      · refine z_iconst hx (n := 1) dX2_hasFillerOfDoubt_29 ?_
        cases h
        exact z_zret hx (by decide) hq dX2_hasFillerOfDoubt_30

theorem w_X2_hasFillerOfDoubt_l2 {C : zC} (hx : z_ok C cX2_hasFillerOfDoubt RX2 0) (hn : z_nL C = 3) (hR : z_R C = rm_X2_hasFillerOfDoubt) {rr : Int × zS} (hq : z_fin C (some .boolean) (z_QI (z_g C) rr.1 rr.2)) {j : Nat} (hj : j < 6) : ∀ (n : Nat) (σ : zS) (x1 : Int) (x2 : Int) (_ : f_X2_hasFillerOfDoubt_l2 j n σ x1 x2 = some rr), z_W C σ 2 [(0, .ref (z_ad (z_g C) (8 * j))), (1, .int (zi x1)), (2, .int (zi x2))] [] := by
  intro n
  induction n with
  | zero => intro σ x1 x2 h; cases h
  | succ n ih =>
    intro σ x1 x2 h
    exact w_X2_hasFillerOfDoubt_b2 hx hn hR hq hj ih σ x1 x2 h
theorem w_X2_hasFillerOfDoubt {C : zC} (hx : z_ok C cX2_hasFillerOfDoubt RX2 0) (hn : z_nL C = 3) (hR : z_R C = rm_X2_hasFillerOfDoubt) {rr : Int × zS} (hq : z_fin C (some .boolean) (z_QI (z_g C) rr.1 rr.2)) {j : Nat} (hj : j < 6) (σ : zS) (x1 : Int) (h : f_X2_hasFillerOfDoubt j σ x1 = some rr) : z_W C σ 0 [(0, .ref (z_ad (z_g C) (8 * j))), (1, .int (zi x1))] [] := by
  unfold f_X2_hasFillerOfDoubt at h
  refine z_iconst hx (n := 0) dX2_hasFillerOfDoubt_0 ?_
  refine z_istore_n hx hn (lv' := [(2, .int (zi 0)), (0, .ref (z_ad (z_g C) (8 * j))), (1, .int (zi x1))]) dX2_hasFillerOfDoubt_1 (by decide) rfl ?_
  refine z_sub [1, 2, 0] rfl ?_
  exact w_X2_hasFillerOfDoubt_l2 hx hn hR hq hj z_fuel σ x1 0 h

theorem met_X2_hasFillerOfDoubt (l : Launch) (g : zG) (hg : g.1 = 0) {j : Nat} (hj : j < 6) {σ : zS} {x1 : Int} {rr : Int × zS} (h : f_X2_hasFillerOfDoubt j σ x1 = some rr) : z_Met l yX2_hasFillerOfDoubt cX2_hasFillerOfDoubt 3 (some .boolean) rm_X2_hasFillerOfDoubt g [.ref (z_ad (g) (8 * j)), .int (zi x1)] σ (z_QI g rr.1 rr.2) := by
  refine z_enter (own := RX2) (sd := 0) (lv0 := [(0, .ref (z_ad (g) (8 * j))), (1, .int (zi x1))]) (by decide) rfl (Nat.le_of_ble_eq_true rfl) hg rfl (fun C hx hl hgC hR hn hq => ?_)
  subst hgC
  refine z_sub [0, 1] rfl ?_
  exact w_X2_hasFillerOfDoubt hx hn hR hq hj σ x1 h
theorem dX2_endOfMarkBefore_0 : decode cX2_endOfMarkBefore 0 = .ok (.aload_n 0, 1) := by decide +kernel
theorem dX2_endOfMarkBefore_1 : decode cX2_endOfMarkBefore 1 = .ok (.iload_n 1, 1) := by decide +kernel
theorem dX2_endOfMarkBefore_2 : decode cX2_endOfMarkBefore 2 = .ok (.iconst 1, 1) := by decide +kernel
theorem dX2_endOfMarkBefore_3 : decode cX2_endOfMarkBefore 3 = .ok (.isub, 1) := by decide +kernel
theorem dX2_endOfMarkBefore_4 : decode cX2_endOfMarkBefore 4 = .ok (.invokevirtual 58, 3) := by decide +kernel
theorem dX2_endOfMarkBefore_7 : decode cX2_endOfMarkBefore 7 = .ok (.ifCond .eq 14, 3) := by decide +kernel
theorem dX2_endOfMarkBefore_10 : decode cX2_endOfMarkBefore 10 = .ok (.aload_n 0, 1) := by decide +kernel
theorem dX2_endOfMarkBefore_11 : decode cX2_endOfMarkBefore 11 = .ok (.getfield 25, 3) := by decide +kernel
theorem dX2_endOfMarkBefore_14 : decode cX2_endOfMarkBefore 14 = .ok (.iload_n 1, 1) := by decide +kernel
theorem dX2_endOfMarkBefore_15 : decode cX2_endOfMarkBefore 15 = .ok (.iconst 1, 1) := by decide +kernel
theorem dX2_endOfMarkBefore_16 : decode cX2_endOfMarkBefore 16 = .ok (.isub, 1) := by decide +kernel
theorem dX2_endOfMarkBefore_17 : decode cX2_endOfMarkBefore 17 = .ok (.iaload, 1) := by decide +kernel
theorem dX2_endOfMarkBefore_18 : decode cX2_endOfMarkBefore 18 = .ok (.goto 4, 3) := by decide +kernel
theorem dX2_endOfMarkBefore_21 : decode cX2_endOfMarkBefore 21 = .ok (.iconst 0, 1) := by decide +kernel
theorem dX2_endOfMarkBefore_22 : decode cX2_endOfMarkBefore 22 = .ok (.ireturn, 1) := by decide +kernel
abbrev rm_X2_endOfMarkBefore : Room := { frames := 1, cells := 0, slots := 0, locals := 21 }
theorem w_X2_endOfMarkBefore_b22 {C : zC} (hx : z_ok C cX2_endOfMarkBefore RX2 0) (hn : z_nL C = 2) (hR : z_R C = rm_X2_endOfMarkBefore) {rr : Int × zS} (hq : z_fin C (some .int) (z_QI (z_g C) rr.1 rr.2)) {j : Nat} (hj : j < 6) (σ : zS) (s0 : Int) (h : f_X2_endOfMarkBefore_b22 j σ s0 = some rr) : z_W C σ 22 [] [.int (zi s0)] := by
  unfold f_X2_endOfMarkBefore_b22 at h
  cases h
  exact z_iret hx hq dX2_endOfMarkBefore_22

theorem w_X2_endOfMarkBefore {C : zC} (hx : z_ok C cX2_endOfMarkBefore RX2 0) (hn : z_nL C = 2) (hR : z_R C = rm_X2_endOfMarkBefore) {rr : Int × zS} (hq : z_fin C (some .int) (z_QI (z_g C) rr.1 rr.2)) {j : Nat} (hj : j < 6) (σ : zS) (x1 : Int) (h : f_X2_endOfMarkBefore j σ x1 = some rr) : z_W C σ 0 [(0, .ref (z_ad (z_g C) (8 * j))), (1, .int (zi x1))] [] := by
  unfold f_X2_endOfMarkBefore at h
  refine z_aload_n hx 0 dX2_endOfMarkBefore_0 rfl ?_
  refine z_iload_n hx 1 dX2_endOfMarkBefore_1 rfl ?_
  refine z_iconst hx (n := 1) dX2_endOfMarkBefore_2 ?_
  refine z_isub hx dX2_endOfMarkBefore_3 ?_
  obtain ⟨r2, σ1, h4, h⟩ := z_bind_some h
  refine z_calli hx (As := [.int (zi (x1 - 1))]) (k := 8 * j) (met_X2_hasMark (z_l C) (z_g C) (z_ok_sd hx) hj h4) (z_lt0 (z_ok_sd hx) (by have := hj; omega)) (z_ka0 (z_ok_sd hx) hj _) rfl rfl cv_X2_58 (z_room hR ⟨Nat.le_of_ble_eq_true rfl, Nat.le_of_ble_eq_true rfl⟩) ⟨rfl, rfl⟩ rfl rfl (Nat.le_of_ble_eq_true rfl) dX2_endOfMarkBefore_4 ?_
  refine z_if_eq hx (tgt := 21) dX2_endOfMarkBefore_7 (by decide) h (fun h => h) (fun hc h => ?_) (fun hc h => ?_)
  · refine z_iconst hx (n := 0) dX2_endOfMarkBefore_21 ?_
    refine z_sub [] rfl ?_
    exact w_X2_endOfMarkBefore_b22 hx hn hR hq hj σ1 0 h
  · refine z_aload_n hx 0 dX2_endOfMarkBefore_10 rfl ?_
    refine gf_X2_ends hx wf_X2_25 hj dX2_endOfMarkBefore_11 ?_
    refine z_iload_n hx 1 dX2_endOfMarkBefore_14 rfl ?_
    refine z_iconst hx (n := 1) dX2_endOfMarkBefore_15 ?_
    refine z_isub hx dX2_endOfMarkBefore_16 ?_
    refine z_iald hx (n := 20) (z_lt0 (z_ok_sd hx) (by have := hj; omega)) (z_ka4 (z_ok_sd hx) hj _) rfl (by decide) dX2_endOfMarkBefore_17 h (fun h => ?_)
    refine z_goto hx (tgt := 22) dX2_endOfMarkBefore_18 (by decide) ?_
    refine z_sub [] rfl ?_
    exact w_X2_endOfMarkBefore_b22 hx hn hR hq hj σ1 (σ1 (8 * j + 4) (x1 - 1)) h

theorem met_X2_endOfMarkBefore (l : Launch) (g : zG) (hg : g.1 = 0) {j : Nat} (hj : j < 6) {σ : zS} {x1 : Int} {rr : Int × zS} (h : f_X2_endOfMarkBefore j σ x1 = some rr) : z_Met l yX2_endOfMarkBefore cX2_endOfMarkBefore 2 (some .int) rm_X2_endOfMarkBefore g [.ref (z_ad (g) (8 * j)), .int (zi x1)] σ (z_QI g rr.1 rr.2) := by
  refine z_enter (own := RX2) (sd := 0) (lv0 := [(0, .ref (z_ad (g) (8 * j))), (1, .int (zi x1))]) (by decide) rfl (Nat.le_of_ble_eq_true rfl) hg rfl (fun C hx hl hgC hR hn hq => ?_)
  subst hgC
  refine z_sub [0, 1] rfl ?_
  exact w_X2_endOfMarkBefore hx hn hR hq hj σ x1 h
theorem dX2_firstOfMarkAfter_0 : decode cX2_firstOfMarkAfter 0 = .ok (.aload_n 0, 1) := by decide +kernel
theorem dX2_firstOfMarkAfter_1 : decode cX2_firstOfMarkAfter 1 = .ok (.iload_n 1, 1) := by decide +kernel
theorem dX2_firstOfMarkAfter_2 : decode cX2_firstOfMarkAfter 2 = .ok (.iconst 1, 1) := by decide +kernel
theorem dX2_firstOfMarkAfter_3 : decode cX2_firstOfMarkAfter 3 = .ok (.iadd, 1) := by decide +kernel
theorem dX2_firstOfMarkAfter_4 : decode cX2_firstOfMarkAfter 4 = .ok (.invokevirtual 58, 3) := by decide +kernel
theorem dX2_firstOfMarkAfter_7 : decode cX2_firstOfMarkAfter 7 = .ok (.ifCond .eq 14, 3) := by decide +kernel
theorem dX2_firstOfMarkAfter_10 : decode cX2_firstOfMarkAfter 10 = .ok (.aload_n 0, 1) := by decide +kernel
theorem dX2_firstOfMarkAfter_11 : decode cX2_firstOfMarkAfter 11 = .ok (.getfield 22, 3) := by decide +kernel
theorem dX2_firstOfMarkAfter_14 : decode cX2_firstOfMarkAfter 14 = .ok (.iload_n 1, 1) := by decide +kernel
theorem dX2_firstOfMarkAfter_15 : decode cX2_firstOfMarkAfter 15 = .ok (.iconst 1, 1) := by decide +kernel
theorem dX2_firstOfMarkAfter_16 : decode cX2_firstOfMarkAfter 16 = .ok (.iadd, 1) := by decide +kernel
theorem dX2_firstOfMarkAfter_17 : decode cX2_firstOfMarkAfter 17 = .ok (.iaload, 1) := by decide +kernel
theorem dX2_firstOfMarkAfter_18 : decode cX2_firstOfMarkAfter 18 = .ok (.goto 7, 3) := by decide +kernel
theorem dX2_firstOfMarkAfter_21 : decode cX2_firstOfMarkAfter 21 = .ok (.aload_n 0, 1) := by decide +kernel
theorem dX2_firstOfMarkAfter_22 : decode cX2_firstOfMarkAfter 22 = .ok (.getfield 15, 3) := by decide +kernel
theorem dX2_firstOfMarkAfter_25 : decode cX2_firstOfMarkAfter 25 = .ok (.ireturn, 1) := by decide +kernel
abbrev rm_X2_firstOfMarkAfter : Room := { frames := 1, cells := 0, slots := 0, locals := 21 }
theorem w_X2_firstOfMarkAfter_b25 {C : zC} (hx : z_ok C cX2_firstOfMarkAfter RX2 0) (hn : z_nL C = 2) (hR : z_R C = rm_X2_firstOfMarkAfter) {rr : Int × zS} (hq : z_fin C (some .int) (z_QI (z_g C) rr.1 rr.2)) {j : Nat} (hj : j < 6) (σ : zS) (s0 : Int) (h : f_X2_firstOfMarkAfter_b25 j σ s0 = some rr) : z_W C σ 25 [] [.int (zi s0)] := by
  unfold f_X2_firstOfMarkAfter_b25 at h
  cases h
  exact z_iret hx hq dX2_firstOfMarkAfter_25

theorem w_X2_firstOfMarkAfter {C : zC} (hx : z_ok C cX2_firstOfMarkAfter RX2 0) (hn : z_nL C = 2) (hR : z_R C = rm_X2_firstOfMarkAfter) {rr : Int × zS} (hq : z_fin C (some .int) (z_QI (z_g C) rr.1 rr.2)) {j : Nat} (hj : j < 6) (σ : zS) (x1 : Int) (h : f_X2_firstOfMarkAfter j σ x1 = some rr) : z_W C σ 0 [(0, .ref (z_ad (z_g C) (8 * j))), (1, .int (zi x1))] [] := by
  unfold f_X2_firstOfMarkAfter at h
  refine z_aload_n hx 0 dX2_firstOfMarkAfter_0 rfl ?_
  refine z_iload_n hx 1 dX2_firstOfMarkAfter_1 rfl ?_
  refine z_iconst hx (n := 1) dX2_firstOfMarkAfter_2 ?_
  refine z_iadd hx dX2_firstOfMarkAfter_3 ?_
  obtain ⟨r2, σ1, h4, h⟩ := z_bind_some h
  refine z_calli hx (As := [.int (zi (x1 + 1))]) (k := 8 * j) (met_X2_hasMark (z_l C) (z_g C) (z_ok_sd hx) hj h4) (z_lt0 (z_ok_sd hx) (by have := hj; omega)) (z_ka0 (z_ok_sd hx) hj _) rfl rfl cv_X2_58 (z_room hR ⟨Nat.le_of_ble_eq_true rfl, Nat.le_of_ble_eq_true rfl⟩) ⟨rfl, rfl⟩ rfl rfl (Nat.le_of_ble_eq_true rfl) dX2_firstOfMarkAfter_4 ?_
  refine z_if_eq hx (tgt := 21) dX2_firstOfMarkAfter_7 (by decide) h (fun h => h) (fun hc h => ?_) (fun hc h => ?_)
  · refine z_aload_n hx 0 dX2_firstOfMarkAfter_21 rfl ?_
    refine gf_X2_frames hx wf_X2_15 hj dX2_firstOfMarkAfter_22 ?_
    refine z_sub [] rfl ?_
    exact w_X2_firstOfMarkAfter_b25 hx hn hR hq hj σ1 (σ1 (8 * j) 1) h
  · refine z_aload_n hx 0 dX2_firstOfMarkAfter_10 rfl ?_
    refine gf_X2_firsts hx wf_X2_22 hj dX2_firstOfMarkAfter_11 ?_
    refine z_iload_n hx 1 dX2_firstOfMarkAfter_14 rfl ?_
    refine z_iconst hx (n := 1) dX2_firstOfMarkAfter_15 ?_
    refine z_iadd hx dX2_firstOfMarkAfter_16 ?_
    refine z_iald hx (n := 20) (z_lt0 (z_ok_sd hx) (by have := hj; omega)) (z_ka3 (z_ok_sd hx) hj _) rfl (by decide) dX2_firstOfMarkAfter_17 h (fun h => ?_)
    refine z_goto hx (tgt := 25) dX2_firstOfMarkAfter_18 (by decide) ?_
    refine z_sub [] rfl ?_
    exact w_X2_firstOfMarkAfter_b25 hx hn hR hq hj σ1 (σ1 (8 * j + 3) (x1 + 1)) h

theorem met_X2_firstOfMarkAfter (l : Launch) (g : zG) (hg : g.1 = 0) {j : Nat} (hj : j < 6) {σ : zS} {x1 : Int} {rr : Int × zS} (h : f_X2_firstOfMarkAfter j σ x1 = some rr) : z_Met l yX2_firstOfMarkAfter cX2_firstOfMarkAfter 2 (some .int) rm_X2_firstOfMarkAfter g [.ref (z_ad (g) (8 * j)), .int (zi x1)] σ (z_QI g rr.1 rr.2) := by
  refine z_enter (own := RX2) (sd := 0) (lv0 := [(0, .ref (z_ad (g) (8 * j))), (1, .int (zi x1))]) (by decide) rfl (Nat.le_of_ble_eq_true rfl) hg rfl (fun C hx hl hgC hR hn hq => ?_)
  subst hgC
  refine z_sub [0, 1] rfl ?_
  exact w_X2_firstOfMarkAfter hx hn hR hq hj σ x1 h
theorem dX2_isQuiet_0 : decode cX2_isQuiet 0 = .ok (.aload_n 0, 1) := by decide +kernel
theorem dX2_isQuiet_1 : decode cX2_isQuiet 1 = .ok (.getfield 38, 3) := by decide +kernel
theorem dX2_isQuiet_4 : decode cX2_isQuiet 4 = .ok (.iconst 1, 1) := by decide +kernel
theorem dX2_isQuiet_5 : decode cX2_isQuiet 5 = .ok (.iaload, 1) := by decide +kernel
theorem dX2_isQuiet_6 : decode cX2_isQuiet 6 = .ok (.istore_n 2, 1) := by decide +kernel
theorem dX2_isQuiet_7 : decode cX2_isQuiet 7 = .ok (.aload_n 0, 1) := by decide +kernel
theorem dX2_isQuiet_8 : decode cX2_isQuiet 8 = .ok (.iload_n 1, 1) := by decide +kernel
theorem dX2_isQuiet_9 : decode cX2_isQuiet 9 = .ok (.iconst 1, 1) := by decide +kernel
theorem dX2_isQuiet_10 : decode cX2_isQuiet 10 = .ok (.isub, 1) := by decide +kernel
theorem dX2_isQuiet_11 : decode cX2_isQuiet 11 = .ok (.invokevirtual 65, 3) := by decide +kernel
theorem dX2_isQuiet_14 : decode cX2_isQuiet 14 = .ok (.iload_n 2, 1) := by decide +kernel
theorem dX2_isQuiet_15 : decode cX2_isQuiet 15 = .ok (.if_icmp .gt 16, 3) := by decide +kernel
theorem dX2_isQuiet_18 : decode cX2_isQuiet 18 = .ok (.aload_n 0, 1) := by decide +kernel
theorem dX2_isQuiet_19 : decode cX2_isQuiet 19 = .ok (.iload_n 1, 1) := by decide +kernel
theorem dX2_isQuiet_20 : decode cX2_isQuiet 20 = .ok (.invokevirtual 65, 3) := by decide +kernel
theorem dX2_isQuiet_23 : decode cX2_isQuiet 23 = .ok (.iload_n 2, 1) := by decide +kernel
theorem dX2_isQuiet_24 : decode cX2_isQuiet 24 = .ok (.if_icmp .gt 7, 3) := by decide +kernel
theorem dX2_isQuiet_27 : decode cX2_isQuiet 27 = .ok (.iconst 1, 1) := by decide +kernel
theorem dX2_isQuiet_28 : decode cX2_isQuiet 28 = .ok (.goto 4, 3) := by decide +kernel
theorem dX2_isQuiet_31 : decode cX2_isQuiet 31 = .ok (.iconst 0, 1) := by decide +kernel
theorem dX2_isQuiet_32 : decode cX2_isQuiet 32 = .ok (.ireturn, 1) := by decide +kernel
abbrev rm_X2_isQuiet : Room := { frames := 1, cells := 0, slots := 0, locals := 21 }
theorem w_X2_isQuiet_b32 {C : zC} (hx : z_ok C cX2_isQuiet RX2 0) (hn : z_nL C = 3) (hR : z_R C = rm_X2_isQuiet) {rr : Int × zS} (hq : z_fin C (some .boolean) (z_QI (z_g C) rr.1 rr.2)) {j : Nat} (hj : j < 6) (σ : zS) (s0 : Int) (h : f_X2_isQuiet_b32 j σ s0 = some rr) : z_W C σ 32 [] [.int (zi s0)] := by
  unfold f_X2_isQuiet_b32 at h
  obtain ⟨hz, h⟩ := z_gd h
  cases h
  exact z_zret hx hz hq dX2_isQuiet_32

theorem w_X2_isQuiet_b31 {C : zC} (hx : z_ok C cX2_isQuiet RX2 0) (hn : z_nL C = 3) (hR : z_R C = rm_X2_isQuiet) {rr : Int × zS} (hq : z_fin C (some .boolean) (z_QI (z_g C) rr.1 rr.2)) {j : Nat} (hj : j < 6) (σ : zS) (h : f_X2_isQuiet_b31 j σ = some rr) : z_W C σ 31 [] [] := by
  unfold f_X2_isQuiet_b31 at h
  refine z_iconst hx (n := 0) dX2_isQuiet_31 ?_
  refine z_sub [] rfl ?_
  exact w_X2_isQuiet_b32 hx hn hR hq hj σ 0 h

theorem w_X2_isQuiet {C : zC} (hx : z_ok C cX2_isQuiet RX2 0) (hn : z_nL C = 3) (hR : z_R C = rm_X2_isQuiet) {rr : Int × zS} (hq : z_fin C (some .boolean) (z_QI (z_g C) rr.1 rr.2)) {j : Nat} (hj : j < 6) (σ : zS) (x1 : Int) (h : f_X2_isQuiet j σ x1 = some rr) : z_W C σ 0 [(0, .ref (z_ad (z_g C) (8 * j))), (1, .int (zi x1))] [] := by
  unfold f_X2_isQuiet at h
  refine z_aload_n hx 0 dX2_isQuiet_0 rfl ?_
  refine gf_X2_settings hx wf_X2_38 hj dX2_isQuiet_1 ?_
  refine z_iconst hx (n := 1) dX2_isQuiet_4 ?_
  refine z_iald hx (n := 7) (z_lt0 (z_ok_sd hx) (by have := hj; omega)) (z_ka7 (z_ok_sd hx) hj _) rfl (by decide) dX2_isQuiet_5 h (fun h => ?_)
  refine z_istore_n hx hn (lv' := [(2, .int (zi (σ (8 * j + 7) 1))), (0, .ref (z_ad (z_g C) (8 * j))), (1, .int (zi x1))]) dX2_isQuiet_6 (by decide) rfl ?_
  refine z_aload_n hx 1 dX2_isQuiet_7 rfl ?_
  refine z_iload_n hx 2 dX2_isQuiet_8 rfl ?_
  refine z_iconst hx (n := 1) dX2_isQuiet_9 ?_
  refine z_isub hx dX2_isQuiet_10 ?_
  obtain ⟨r2, σ1, h11, h⟩ := z_bind_some h
  refine z_calli hx (As := [.int (zi (x1 - 1))]) (k := 8 * j) (met_X2_levelAt (z_l C) (z_g C) (z_ok_sd hx) hj h11) (z_lt0 (z_ok_sd hx) (by have := hj; omega)) (z_ka0 (z_ok_sd hx) hj _) rfl rfl cv_X2_65 (z_room hR ⟨Nat.le_of_ble_eq_true rfl, Nat.le_of_ble_eq_true rfl⟩) ⟨rfl, rfl⟩ rfl rfl (Nat.le_of_ble_eq_true rfl) dX2_isQuiet_11 ?_
  refine z_iload_n hx 0 dX2_isQuiet_14 rfl ?_
  refine z_icmp_gt hx (tgt := 31) dX2_isQuiet_15 (by decide) h (fun h => h) (fun hc h => ?_) (fun hc h => ?_)
  · refine z_sub [] rfl ?_
    exact w_X2_isQuiet_b31 hx hn hR hq hj σ1 h
  · refine z_aload_n hx 1 dX2_isQuiet_18 rfl ?_
    refine z_iload_n hx 2 dX2_isQuiet_19 rfl ?_
    obtain ⟨r4, σ3, h20, h⟩ := z_bind_some h
    refine z_calli hx (As := [.int (zi x1)]) (k := 8 * j) (met_X2_levelAt (z_l C) (z_g C) (z_ok_sd hx) hj h20) (z_lt0 (z_ok_sd hx) (by have := hj; omega)) (z_ka0 (z_ok_sd hx) hj _) rfl rfl cv_X2_65 (z_room hR ⟨Nat.le_of_ble_eq_true rfl, Nat.le_of_ble_eq_true rfl⟩) ⟨rfl, rfl⟩ rfl rfl (Nat.le_of_ble_eq_true rfl) dX2_isQuiet_20 ?_
    refine z_iload_n hx 0 dX2_isQuiet_23 rfl ?_
    refine z_icmp_gt hx (tgt := 31) dX2_isQuiet_24 (by decide) h (fun h => h) (fun hc h => ?_) (fun hc h => ?_)
    · refine z_sub [] rfl ?_
      exact w_X2_isQuiet_b31 hx hn hR hq hj σ3 h
    · refine z_iconst hx (n := 1) dX2_isQuiet_27 ?_
      refine z_goto hx (tgt := 32) dX2_isQuiet_28 (by decide) ?_
      refine z_sub [] rfl ?_
      exact w_X2_isQuiet_b32 hx hn hR hq hj σ3 1 h

theorem met_X2_isQuiet (l : Launch) (g : zG) (hg : g.1 = 0) {j : Nat} (hj : j < 6) {σ : zS} {x1 : Int} {rr : Int × zS} (h : f_X2_isQuiet j σ x1 = some rr) : z_Met l yX2_isQuiet cX2_isQuiet 3 (some .boolean) rm_X2_isQuiet g [.ref (z_ad (g) (8 * j)), .int (zi x1)] σ (z_QI g rr.1 rr.2) := by
  refine z_enter (own := RX2) (sd := 0) (lv0 := [(0, .ref (z_ad (g) (8 * j))), (1, .int (zi x1))]) (by decide) rfl (Nat.le_of_ble_eq_true rfl) hg rfl (fun C hx hl hgC hR hn hq => ?_)
  subst hgC
  refine z_sub [0, 1] rfl ?_
  exact w_X2_isQuiet hx hn hR hq hj σ x1 h
theorem dX2_nearestQuietSeam_0 : decode cX2_nearestQuietSeam 0 = .ok (.iconst 0, 1) := by decide +kernel
theorem dX2_nearestQuietSeam_1 : decode cX2_nearestQuietSeam 1 = .ok (.istore 5, 2) := by decide +kernel
theorem dX2_nearestQuietSeam_3 : decode cX2_nearestQuietSeam 3 = .ok (.iload 5, 2) := by decide +kernel
theorem dX2_nearestQuietSeam_5 : decode cX2_nearestQuietSeam 5 = .ok (.iload_n 2, 1) := by decide +kernel
theorem dX2_nearestQuietSeam_6 : decode cX2_nearestQuietSeam 6 = .ok (.if_icmp .gt 71, 3) := by decide +kernel
theorem dX2_nearestQuietSeam_9 : decode cX2_nearestQuietSeam 9 = .ok (.iload_n 1, 1) := by decide +kernel
theorem dX2_nearestQuietSeam_10 : decode cX2_nearestQuietSeam 10 = .ok (.iload 5, 2) := by decide +kernel
theorem dX2_nearestQuietSeam_12 : decode cX2_nearestQuietSeam 12 = .ok (.isub, 1) := by decide +kernel
theorem dX2_nearestQuietSeam_13 : decode cX2_nearestQuietSeam 13 = .ok (.istore 6, 2) := by decide +kernel
theorem dX2_nearestQuietSeam_15 : decode cX2_nearestQuietSeam 15 = .ok (.iload 6, 2) := by decide +kernel
theorem dX2_nearestQuietSeam_17 : decode cX2_nearestQuietSeam 17 = .ok (.iload_n 3, 1) := by decide +kernel
theorem dX2_nearestQuietSeam_18 : decode cX2_nearestQuietSeam 18 = .ok (.if_icmp .lt 22, 3) := by decide +kernel
theorem dX2_nearestQuietSeam_21 : decode cX2_nearestQuietSeam 21 = .ok (.iload 6, 2) := by decide +kernel
theorem dX2_nearestQuietSeam_23 : decode cX2_nearestQuietSeam 23 = .ok (.iload 4, 2) := by decide +kernel
theorem dX2_nearestQuietSeam_25 : decode cX2_nearestQuietSeam 25 = .ok (.if_icmp .gt 15, 3) := by decide +kernel
theorem dX2_nearestQuietSeam_28 : decode cX2_nearestQuietSeam 28 = .ok (.aload_n 0, 1) := by decide +kernel
theorem dX2_nearestQuietSeam_29 : decode cX2_nearestQuietSeam 29 = .ok (.iload 6, 2) := by decide +kernel
theorem dX2_nearestQuietSeam_31 : decode cX2_nearestQuietSeam 31 = .ok (.invokevirtual 62, 3) := by decide +kernel
theorem dX2_nearestQuietSeam_34 : decode cX2_nearestQuietSeam 34 = .ok (.ifCond .eq 6, 3) := by decide +kernel
theorem dX2_nearestQuietSeam_37 : decode cX2_nearestQuietSeam 37 = .ok (.iload 6, 2) := by decide +kernel
theorem dX2_nearestQuietSeam_39 : decode cX2_nearestQuietSeam 39 = .ok (.ireturn, 1) := by decide +kernel
theorem dX2_nearestQuietSeam_40 : decode cX2_nearestQuietSeam 40 = .ok (.iload_n 1, 1) := by decide +kernel
theorem dX2_nearestQuietSeam_41 : decode cX2_nearestQuietSeam 41 = .ok (.iload 5, 2) := by decide +kernel
theorem dX2_nearestQuietSeam_43 : decode cX2_nearestQuietSeam 43 = .ok (.iadd, 1) := by decide +kernel
theorem dX2_nearestQuietSeam_44 : decode cX2_nearestQuietSeam 44 = .ok (.istore 7, 2) := by decide +kernel
theorem dX2_nearestQuietSeam_46 : decode cX2_nearestQuietSeam 46 = .ok (.iload 7, 2) := by decide +kernel
theorem dX2_nearestQuietSeam_48 : decode cX2_nearestQuietSeam 48 = .ok (.iload_n 3, 1) := by decide +kernel
theorem dX2_nearestQuietSeam_49 : decode cX2_nearestQuietSeam 49 = .ok (.if_icmp .lt 22, 3) := by decide +kernel
theorem dX2_nearestQuietSeam_52 : decode cX2_nearestQuietSeam 52 = .ok (.iload 7, 2) := by decide +kernel
theorem dX2_nearestQuietSeam_54 : decode cX2_nearestQuietSeam 54 = .ok (.iload 4, 2) := by decide +kernel
theorem dX2_nearestQuietSeam_56 : decode cX2_nearestQuietSeam 56 = .ok (.if_icmp .gt 15, 3) := by decide +kernel
theorem dX2_nearestQuietSeam_59 : decode cX2_nearestQuietSeam 59 = .ok (.aload_n 0, 1) := by decide +kernel
theorem dX2_nearestQuietSeam_60 : decode cX2_nearestQuietSeam 60 = .ok (.iload 7, 2) := by decide +kernel
theorem dX2_nearestQuietSeam_62 : decode cX2_nearestQuietSeam 62 = .ok (.invokevirtual 62, 3) := by decide +kernel
theorem dX2_nearestQuietSeam_65 : decode cX2_nearestQuietSeam 65 = .ok (.ifCond .eq 6, 3) := by decide +kernel
theorem dX2_nearestQuietSeam_68 : decode cX2_nearestQuietSeam 68 = .ok (.iload 7, 2) := by decide +kernel
theorem dX2_nearestQuietSeam_70 : decode cX2_nearestQuietSeam 70 = .ok (.ireturn, 1) := by decide +kernel
theorem dX2_nearestQuietSeam_71 : decode cX2_nearestQuietSeam 71 = .ok (.iinc 5 1, 3) := by decide +kernel
theorem dX2_nearestQuietSeam_74 : decode cX2_nearestQuietSeam 74 = .ok (.goto (-71), 3) := by decide +kernel
theorem dX2_nearestQuietSeam_77 : decode cX2_nearestQuietSeam 77 = .ok (.iconst (-1), 1) := by decide +kernel
theorem dX2_nearestQuietSeam_78 : decode cX2_nearestQuietSeam 78 = .ok (.ireturn, 1) := by decide +kernel
abbrev rm_X2_nearestQuietSeam : Room := { frames := 2, cells := 0, slots := 0, locals := 43 }
theorem w_X2_nearestQuietSeam_b71 {C : zC} (hx : z_ok C cX2_nearestQuietSeam RX2 0) (hn : z_nL C = 8) (hR : z_R C = rm_X2_nearestQuietSeam) {rr : Int × zS} (hq : z_fin C (some .int) (z_QI (z_g C) rr.1 rr.2)) {j : Nat} (hj : j < 6) {K3 : zS → Int → Int → Int → Int → Int → Option (Int × zS)} (hK3 : ∀ (σ : zS) (x1 : Int) (x2 : Int) (x3 : Int) (x4 : Int) (x5 : Int) , K3 σ x1 x2 x3 x4 x5 = some rr → z_W C σ 3 [(0, .ref (z_ad (z_g C) (8 * j))), (1, .int (zi x1)), (2, .int (zi x2)), (3, .int (zi x3)), (4, .int (zi x4)), (5, .int (zi x5))] []) (σ : zS) (x1 : Int) (x2 : Int) (x3 : Int) (x4 : Int) (x5 : Int) (h : f_X2_nearestQuietSeam_b71 j K3 σ x1 x2 x3 x4 x5 = some rr) : z_W C σ 71 [(0, .ref (z_ad (z_g C) (8 * j))), (1, .int (zi x1)), (2, .int (zi x2)), (3, .int (zi x3)), (4, .int (zi x4)), (5, .int (zi x5))] [] := by
  unfold f_X2_nearestQuietSeam_b71 at h
  refine z_iinc hx hn 5 (lv' := [(5, .int (zi (x5 + 1))), (0, .ref (z_ad (z_g C) (8 * j))), (1, .int (zi x1)), (2, .int (zi x2)), (3, .int (zi x3)), (4, .int (zi x4))]) dX2_nearestQuietSeam_71 rfl (by decide) rfl ?_
  refine z_goto hx (tgt := 3) dX2_nearestQuietSeam_74 (by decide) ?_
  refine z_sub [1, 2, 3, 4, 5, 0] rfl ?_
  exact hK3 σ x1 x2 x3 x4 (x5 + 1) h

theorem w_X2_nearestQuietSeam_b40 {C : zC} (hx : z_ok C cX2_nearestQuietSeam RX2 0) (hn : z_nL C = 8) (hR : z_R C = rm_X2_nearestQuietSeam) {rr : Int × zS} (hq : z_fin C (some .int) (z_QI (z_g C) rr.1 rr.2)) {j : Nat} (hj : j < 6) {K3 : zS → Int → Int → Int → Int → Int → Option (Int × zS)} (hK3 : ∀ (σ : zS) (x1 : Int) (x2 : Int) (x3 : Int) (x4 : Int) (x5 : Int) , K3 σ x1 x2 x3 x4 x5 = some rr → z_W C σ 3 [(0, .ref (z_ad (z_g C) (8 * j))), (1, .int (zi x1)), (2, .int (zi x2)), (3, .int (zi x3)), (4, .int (zi x4)), (5, .int (zi x5))] []) (σ : zS) (x1 : Int) (x2 : Int) (x3 : Int) (x4 : Int) (x5 : Int) (h : f_X2_nearestQuietSeam_b40 j K3 σ x1 x2 x3 x4 x5 = some rr) : z_W C σ 40 [(0, .ref (z_ad (z_g C) (8 * j))), (1, .int (zi x1)), (2, .int (zi x2)), (3, .int (zi x3)), (4, .int (zi x4)), (5, .int (zi x5))] [] := by
  unfold f_X2_nearestQuietSeam_b40 at h
  refine z_iload_n hx 1 dX2_nearestQuietSeam_40 rfl ?_
  refine z_iload hx 5 dX2_nearestQuietSeam_41 rfl ?_
  refine z_iadd hx dX2_nearestQuietSeam_43 ?_
  refine z_istore hx hn (lv' := [(7, .int (zi (x1 + x5))), (0, .ref (z_ad (z_g C) (8 * j))), (1, .int (zi x1)), (2, .int (zi x2)), (3, .int (zi x3)), (4, .int (zi x4)), (5, .int (zi x5))]) dX2_nearestQuietSeam_44 (by decide) rfl ?_
  refine z_iload hx 0 dX2_nearestQuietSeam_46 rfl ?_
  refine z_iload_n hx 4 dX2_nearestQuietSeam_48 rfl ?_
  refine z_icmp_lt hx (tgt := 71) dX2_nearestQuietSeam_49 (by decide) h (fun h => h) (fun hc h => ?_) (fun hc h => ?_)
  · refine z_sub [1, 2, 3, 4, 5, 6] rfl ?_
    exact w_X2_nearestQuietSeam_b71 hx hn hR hq hj hK3 σ x1 x2 x3 x4 x5 h
  · refine z_iload hx 0 dX2_nearestQuietSeam_52 rfl ?_
    refine z_iload hx 5 dX2_nearestQuietSeam_54 rfl ?_
    refine z_icmp_gt hx (tgt := 71) dX2_nearestQuietSeam_56 (by decide) h (fun h => h) (fun hc h => ?_) (fun hc h => ?_)
    · refine z_sub [1, 2, 3, 4, 5, 6] rfl ?_
      exact w_X2_nearestQuietSeam_b71 hx hn hR hq hj hK3 σ x1 x2 x3 x4 x5 h
    · refine z_aload_n hx 1 dX2_nearestQuietSeam_59 rfl ?_
      refine z_iload hx 0 dX2_nearestQuietSeam_60 rfl ?_
      obtain ⟨r2, σ1, h62, h⟩ := z_bind_some h
      refine z_calli hx (As := [.int (zi (x1 + x5))]) (k := 8 * j) (met_X2_isQuiet (z_l C) (z_g C) (z_ok_sd hx) hj h62) (z_lt0 (z_ok_sd hx) (by have := hj; omega)) (z_ka0 (z_ok_sd hx) hj _) rfl rfl cv_X2_62 (z_room hR ⟨Nat.le_of_ble_eq_true rfl, Nat.le_of_ble_eq_true rfl⟩) ⟨rfl, rfl⟩ rfl rfl (Nat.le_of_ble_eq_true rfl) dX2_nearestQuietSeam_62 ?_
      refine z_if_eq hx (tgt := 71) dX2_nearestQuietSeam_65 (by decide) h (fun h => h) (fun hc h => ?_) (fun hc h => ?_)
      · refine z_sub [1, 2, 3, 4, 5, 6] rfl ?_
        exact w_X2_nearestQuietSeam_b71 hx hn hR hq hj hK3 σ1 x1 x2 x3 x4 x5 h
      · refine z_iload hx 0 dX2_nearestQuietSeam_68 rfl ?_
        cases h
        exact z_iret hx hq dX2_nearestQuietSeam_70

theorem w_X2_nearestQuietSeam_b3 {C : zC} (hx : z_ok C cX2_nearestQuietSeam RX2 0) (hn : z_nL C = 8) (hR : z_R C = rm_X2_nearestQuietSeam) {rr : Int × zS} (hq : z_fin C (some .int) (z_QI (z_g C) rr.1 rr.2)) {j : Nat} (hj : j < 6) {K3 : zS → Int → Int → Int → Int → Int → Option (Int × zS)} (hK3 : ∀ (σ : zS) (x1 : Int) (x2 : Int) (x3 : Int) (x4 : Int) (x5 : Int) , K3 σ x1 x2 x3 x4 x5 = some rr → z_W C σ 3 [(0, .ref (z_ad (z_g C) (8 * j))), (1, .int (zi x1)), (2, .int (zi x2)), (3, .int (zi x3)), (4, .int (zi x4)), (5, .int (zi x5))] []) (σ : zS) (x1 : Int) (x2 : Int) (x3 : Int) (x4 : Int) (x5 : Int) (h : f_X2_nearestQuietSeam_b3 j K3 σ x1 x2 x3 x4 x5 = some rr) : z_W C σ 3 [(0, .ref (z_ad (z_g C) (8 * j))), (1, .int (zi x1)), (2, .int (zi x2)), (3, .int (zi x3)), (4, .int (zi x4)), (5, .int (zi x5))] [] := by
  unfold f_X2_nearestQuietSeam_b3 at h
  refine z_iload hx 5 dX2_nearestQuietSeam_3 rfl ?_
  refine z_iload_n hx 2 dX2_nearestQuietSeam_5 rfl ?_
  refine z_icmp_gt hx (tgt := 77) dX2_nearestQuietSeam_6 (by decide) h (fun h => h) (fun hc h => ?_) (fun hc h => ?_)
  · refine z_iconst hx (n := (-1)) dX2_nearestQuietSeam_77 ?_
    cases h
    exact z_iret hx hq dX2_nearestQuietSeam_78
  · refine z_iload_n hx 1 dX2_nearestQuietSeam_9 rfl ?_
    refine z_iload hx 5 dX2_nearestQuietSeam_10 rfl ?_
    refine z_isub hx dX2_nearestQuietSeam_12 ?_
    refine z_istore hx hn (lv' := [(6, .int (zi (x1 - x5))), (0, .ref (z_ad (z_g C) (8 * j))), (1, .int (zi x1)), (2, .int (zi x2)), (3, .int (zi x3)), (4, .int (zi x4)), (5, .int (zi x5))]) dX2_nearestQuietSeam_13 (by decide) rfl ?_
    refine z_iload hx 0 dX2_nearestQuietSeam_15 rfl ?_
    refine z_iload_n hx 4 dX2_nearestQuietSeam_17 rfl ?_
    refine z_icmp_lt hx (tgt := 40) dX2_nearestQuietSeam_18 (by decide) h (fun h => h) (fun hc h => ?_) (fun hc h => ?_)
    · refine z_sub [1, 2, 3, 4, 5, 6] rfl ?_
      exact w_X2_nearestQuietSeam_b40 hx hn hR hq hj hK3 σ x1 x2 x3 x4 x5 h
    · refine z_iload hx 0 dX2_nearestQuietSeam_21 rfl ?_
      refine z_iload hx 5 dX2_nearestQuietSeam_23 rfl ?_
      refine z_icmp_gt hx (tgt := 40) dX2_nearestQuietSeam_25 (by decide) h (fun h => h) (fun hc h => ?_) (fun hc h => ?_)
      · refine z_sub [1, 2, 3, 4, 5, 6] rfl ?_
        exact w_X2_nearestQuietSeam_b40 hx hn hR hq hj hK3 σ x1 x2 x3 x4 x5 h
      · refine z_aload_n hx 1 dX2_nearestQuietSeam_28 rfl ?_
        refine z_iload hx 0 dX2_nearestQuietSeam_29 rfl ?_
        obtain ⟨r2, σ1, h31, h⟩ := z_bind_some h
        refine z_calli hx (As := [.int (zi (x1 - x5))]) (k := 8 * j) (met_X2_isQuiet (z_l C) (z_g C) (z_ok_sd hx) hj h31) (z_lt0 (z_ok_sd hx) (by have := hj; omega)) (z_ka0 (z_ok_sd hx) hj _) rfl rfl cv_X2_62 (z_room hR ⟨Nat.le_of_ble_eq_true rfl, Nat.le_of_ble_eq_true rfl⟩) ⟨rfl, rfl⟩ rfl rfl (Nat.le_of_ble_eq_true rfl) dX2_nearestQuietSeam_31 ?_
        refine z_if_eq hx (tgt := 40) dX2_nearestQuietSeam_34 (by decide) h (fun h => h) (fun hc h => ?_) (fun hc h => ?_)
        · refine z_sub [1, 2, 3, 4, 5, 6] rfl ?_
          exact w_X2_nearestQuietSeam_b40 hx hn hR hq hj hK3 σ1 x1 x2 x3 x4 x5 h
        · refine z_iload hx 0 dX2_nearestQuietSeam_37 rfl ?_
          cases h
          exact z_iret hx hq dX2_nearestQuietSeam_39

theorem w_X2_nearestQuietSeam_l3 {C : zC} (hx : z_ok C cX2_nearestQuietSeam RX2 0) (hn : z_nL C = 8) (hR : z_R C = rm_X2_nearestQuietSeam) {rr : Int × zS} (hq : z_fin C (some .int) (z_QI (z_g C) rr.1 rr.2)) {j : Nat} (hj : j < 6) : ∀ (n : Nat) (σ : zS) (x1 : Int) (x2 : Int) (x3 : Int) (x4 : Int) (x5 : Int) (_ : f_X2_nearestQuietSeam_l3 j n σ x1 x2 x3 x4 x5 = some rr), z_W C σ 3 [(0, .ref (z_ad (z_g C) (8 * j))), (1, .int (zi x1)), (2, .int (zi x2)), (3, .int (zi x3)), (4, .int (zi x4)), (5, .int (zi x5))] [] := by
  intro n
  induction n with
  | zero => intro σ x1 x2 x3 x4 x5 h; cases h
  | succ n ih =>
    intro σ x1 x2 x3 x4 x5 h
    exact w_X2_nearestQuietSeam_b3 hx hn hR hq hj ih σ x1 x2 x3 x4 x5 h
theorem w_X2_nearestQuietSeam {C : zC} (hx : z_ok C cX2_nearestQuietSeam RX2 0) (hn : z_nL C = 8) (hR : z_R C = rm_X2_nearestQuietSeam) {rr : Int × zS} (hq : z_fin C (some .int) (z_QI (z_g C) rr.1 rr.2)) {j : Nat} (hj : j < 6) (σ : zS) (x1 : Int) (x2 : Int) (x3 : Int) (x4 : Int) (h : f_X2_nearestQuietSeam j σ x1 x2 x3 x4 = some rr) : z_W C σ 0 [(0, .ref (z_ad (z_g C) (8 * j))), (1, .int (zi x1)), (2, .int (zi x2)), (3, .int (zi x3)), (4, .int (zi x4))] [] := by
  unfold f_X2_nearestQuietSeam at h
  refine z_iconst hx (n := 0) dX2_nearestQuietSeam_0 ?_
  refine z_istore hx hn (lv' := [(5, .int (zi 0)), (0, .ref (z_ad (z_g C) (8 * j))), (1, .int (zi x1)), (2, .int (zi x2)), (3, .int (zi x3)), (4, .int (zi x4))]) dX2_nearestQuietSeam_1 (by decide) rfl ?_
  refine z_sub [1, 2, 3, 4, 5, 0] rfl ?_
  exact w_X2_nearestQuietSeam_l3 hx hn hR hq hj z_fuel σ x1 x2 x3 x4 0 h

theorem met_X2_nearestQuietSeam (l : Launch) (g : zG) (hg : g.1 = 0) {j : Nat} (hj : j < 6) {σ : zS} {x1 : Int} {x2 : Int} {x3 : Int} {x4 : Int} {rr : Int × zS} (h : f_X2_nearestQuietSeam j σ x1 x2 x3 x4 = some rr) : z_Met l yX2_nearestQuietSeam cX2_nearestQuietSeam 8 (some .int) rm_X2_nearestQuietSeam g [.ref (z_ad (g) (8 * j)), .int (zi x1), .int (zi x2), .int (zi x3), .int (zi x4)] σ (z_QI g rr.1 rr.2) := by
  refine z_enter (own := RX2) (sd := 0) (lv0 := [(0, .ref (z_ad (g) (8 * j))), (1, .int (zi x1)), (2, .int (zi x2)), (3, .int (zi x3)), (4, .int (zi x4))]) (by decide) rfl (Nat.le_of_ble_eq_true rfl) hg rfl (fun C hx hl hgC hR hn hq => ?_)
  subst hgC
  refine z_sub [0, 1, 2, 3, 4] rfl ?_
  exact w_X2_nearestQuietSeam hx hn hR hq hj σ x1 x2 x3 x4 h
