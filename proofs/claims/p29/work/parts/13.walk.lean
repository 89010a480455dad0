/-! walks, by program: ['X3'] -/
theorem dX3_gatherFrame_0 : decode cX3_gatherFrame 0 = .ok (.iload_n 2, 1) := by decide +kernel
theorem dX3_gatherFrame_1 : decode cX3_gatherFrame 1 = .ok (.iconst 2, 1) := by decide +kernel
theorem dX3_gatherFrame_2 : decode cX3_gatherFrame 2 = .ok (.if_icmp .ne 33, 3) := by decide +kernel
theorem dX3_gatherFrame_5 : decode cX3_gatherFrame 5 = .ok (.aload_n 0, 1) := by decide +kernel
theorem dX3_gatherFrame_6 : decode cX3_gatherFrame 6 = .ok (.getfield 25, 3) := by decide +kernel
theorem dX3_gatherFrame_9 : decode cX3_gatherFrame 9 = .ok (.sipush 200, 3) := by decide +kernel
theorem dX3_gatherFrame_12 : decode cX3_gatherFrame 12 = .ok (.if_icmp .ge 23, 3) := by decide +kernel
theorem dX3_gatherFrame_15 : decode cX3_gatherFrame 15 = .ok (.aload_n 0, 1) := by decide +kernel
theorem dX3_gatherFrame_16 : decode cX3_gatherFrame 16 = .ok (.getfield 22, 3) := by decide +kernel
theorem dX3_gatherFrame_19 : decode cX3_gatherFrame 19 = .ok (.aload_n 0, 1) := by decide +kernel
theorem dX3_gatherFrame_20 : decode cX3_gatherFrame 20 = .ok (.getfield 25, 3) := by decide +kernel
theorem dX3_gatherFrame_23 : decode cX3_gatherFrame 23 = .ok (.iload_n 1, 1) := by decide +kernel
theorem dX3_gatherFrame_24 : decode cX3_gatherFrame 24 = .ok (.iastore, 1) := by decide +kernel
theorem dX3_gatherFrame_25 : decode cX3_gatherFrame 25 = .ok (.aload_n 0, 1) := by decide +kernel
theorem dX3_gatherFrame_26 : decode cX3_gatherFrame 26 = .ok (.dup, 1) := by decide +kernel
theorem dX3_gatherFrame_27 : decode cX3_gatherFrame 27 = .ok (.getfield 25, 3) := by decide +kernel
theorem dX3_gatherFrame_30 : decode cX3_gatherFrame 30 = .ok (.iconst 1, 1) := by decide +kernel
theorem dX3_gatherFrame_31 : decode cX3_gatherFrame 31 = .ok (.iadd, 1) := by decide +kernel
theorem dX3_gatherFrame_32 : decode cX3_gatherFrame 32 = .ok (.putfield 25, 3) := by decide +kernel
theorem dX3_gatherFrame_35 : decode cX3_gatherFrame 35 = .ok (.iload_n 2, 1) := by decide +kernel
theorem dX3_gatherFrame_36 : decode cX3_gatherFrame 36 = .ok (.iconst 3, 1) := by decide +kernel
theorem dX3_gatherFrame_37 : decode cX3_gatherFrame 37 = .ok (.if_icmp .ne 21, 3) := by decide +kernel
theorem dX3_gatherFrame_40 : decode cX3_gatherFrame 40 = .ok (.iload_n 1, 1) := by decide +kernel
theorem dX3_gatherFrame_41 : decode cX3_gatherFrame 41 = .ok (.ifCond .lt 17, 3) := by decide +kernel
theorem dX3_gatherFrame_44 : decode cX3_gatherFrame 44 = .ok (.iload_n 1, 1) := by decide +kernel
theorem dX3_gatherFrame_45 : decode cX3_gatherFrame 45 = .ok (.sipush 200, 3) := by decide +kernel
theorem dX3_gatherFrame_48 : decode cX3_gatherFrame 48 = .ok (.if_icmp .ge 10, 3) := by decide +kernel
theorem dX3_gatherFrame_51 : decode cX3_gatherFrame 51 = .ok (.aload_n 0, 1) := by decide +kernel
theorem dX3_gatherFrame_52 : decode cX3_gatherFrame 52 = .ok (.getfield 31, 3) := by decide +kernel
theorem dX3_gatherFrame_55 : decode cX3_gatherFrame 55 = .ok (.iload_n 1, 1) := by decide +kernel
theorem dX3_gatherFrame_56 : decode cX3_gatherFrame 56 = .ok (.iconst 1, 1) := by decide +kernel
theorem dX3_gatherFrame_57 : decode cX3_gatherFrame 57 = .ok (.bastore, 1) := by decide +kernel
theorem dX3_gatherFrame_58 : decode cX3_gatherFrame 58 = .ok (.return_, 1) := by decide +kernel
abbrev rm_X3_gatherFrame : Room := { frames := 0, cells := 0, slots := 0, locals := 0 }
theorem w_X3_gatherFrame_b58 {C : zC} (hx : z_ok C cX3_gatherFrame RX3 0) (hn : z_nL C = 3) (hR : z_R C = rm_X3_gatherFrame) {rr : Unit × zS} (hq : z_fin C none (z_QV (z_g C) rr.2)) (σ : zS) (h : f_X3_gatherFrame_b58 σ = some rr) : z_W C σ 58 [] [] := by
  unfold f_X3_gatherFrame_b58 at h
  cases h
  exact z_vret hx hq dX3_gatherFrame_58

theorem w_X3_gatherFrame_b35 {C : zC} (hx : z_ok C cX3_gatherFrame RX3 0) (hn : z_nL C = 3) (hR : z_R C = rm_X3_gatherFrame) {rr : Unit × zS} (hq : z_fin C none (z_QV (z_g C) rr.2)) (σ : zS) (x1 : Int) (x2 : Int) (h : f_X3_gatherFrame_b35 σ x1 x2 = some rr) : z_W C σ 35 [(0, .ref (z_ad (z_g C) 54)), (1, .int (zi x1)), (2, .int (zi x2))] [] := by
  unfold f_X3_gatherFrame_b35 at h
  refine z_iload_n hx 2 dX3_gatherFrame_35 rfl ?_
  refine z_iconst hx (n := 3) dX3_gatherFrame_36 ?_
  refine z_icmp_ne hx (tgt := 58) dX3_gatherFrame_37 (by decide) h (fun h => ⟨h, by decide⟩) (fun hc h => ?_) (fun hc h => ?_)
  · refine z_sub [] rfl ?_
    exact w_X3_gatherFrame_b58 hx hn hR hq σ h
  · refine z_iload_n hx 1 dX3_gatherFrame_40 rfl ?_
    refine z_if_lt hx (tgt := 58) dX3_gatherFrame_41 (by decide) h (fun h => h) (fun hc h => ?_) (fun hc h => ?_)
    · refine z_sub [] rfl ?_
      exact w_X3_gatherFrame_b58 hx hn hR hq σ h
    · refine z_iload_n hx 1 dX3_gatherFrame_44 rfl ?_
      refine z_sipush hx (n := 200) dX3_gatherFrame_45 rfl ?_
      refine z_icmp_ge hx (tgt := 58) dX3_gatherFrame_48 (by decide) h (fun h => ⟨h, by decide⟩) (fun hc h => ?_) (fun hc h => ?_)
      · refine z_sub [] rfl ?_
        exact w_X3_gatherFrame_b58 hx hn hR hq σ h
      · refine z_aload_n hx 0 dX3_gatherFrame_51 rfl ?_
        refine gf_X3_noisy hx wf_X3_31 dX3_gatherFrame_52 ?_
        refine z_iload_n hx 1 dX3_gatherFrame_55 rfl ?_
        refine z_iconst hx (n := 1) dX3_gatherFrame_56 ?_
        refine z_zast hx (n := 200) (z_lt0 (z_ok_sd hx) (by decide)) (z_kb58 (z_ok_sd hx)) rfl (by decide) dX3_gatherFrame_57 h (fun σ1 h => ?_)
        refine z_sub [] rfl ?_
        exact w_X3_gatherFrame_b58 hx hn hR hq σ1 h

theorem w_X3_gatherFrame {C : zC} (hx : z_ok C cX3_gatherFrame RX3 0) (hn : z_nL C = 3) (hR : z_R C = rm_X3_gatherFrame) {rr : Unit × zS} (hq : z_fin C none (z_QV (z_g C) rr.2)) (σ : zS) (x1 : Int) (x2 : Int) (h : f_X3_gatherFrame σ x1 x2 = some rr) : z_W C σ 0 [(0, .ref (z_ad (z_g C) 54)), (1, .int (zi x1)), (2, .int (zi x2))] [] := by
  unfold f_X3_gatherFrame at h
  refine z_iload_n hx 2 dX3_gatherFrame_0 rfl ?_
  refine z_iconst hx (n := 2) dX3_gatherFrame_1 ?_
  refine z_icmp_ne hx (tgt := 35) dX3_gatherFrame_2 (by decide) h (fun h => ⟨h, by decide⟩) (fun hc h => ?_) (fun hc h => ?_)
  · refine z_sub [0, 1, 2] rfl ?_
    exact w_X3_gatherFrame_b35 hx hn hR hq σ x1 x2 h
  · refine z_aload_n hx 0 dX3_gatherFrame_5 rfl ?_
    refine gf_X3_roomFrames hx wf_X3_25 dX3_gatherFrame_6 ?_
    refine z_sipush hx (n := 200) dX3_gatherFrame_9 rfl ?_
    refine z_icmp_ge hx (tgt := 35) dX3_gatherFrame_12 (by decide) h (fun h => ⟨h, by decide⟩) (fun hc h => ?_) (fun hc h => ?_)
    · refine z_sub [0, 1, 2] rfl ?_
      exact w_X3_gatherFrame_b35 hx hn hR hq σ x1 x2 h
    · refine z_aload_n hx 0 dX3_gatherFrame_15 rfl ?_
      refine gf_X3_room hx wf_X3_22 dX3_gatherFrame_16 ?_
      refine z_aload_n hx 0 dX3_gatherFrame_19 rfl ?_
      refine gf_X3_roomFrames hx wf_X3_25 dX3_gatherFrame_20 ?_
      refine z_iload_n hx 1 dX3_gatherFrame_23 rfl ?_
      refine z_iast hx (n := 200) (z_lt0 (z_ok_sd hx) (by decide)) (z_kb57 (z_ok_sd hx)) rfl (by decide) dX3_gatherFrame_24 h (fun σ1 h => ?_)
      refine z_aload_n hx 0 dX3_gatherFrame_25 rfl ?_
      refine z_dup hx dX3_gatherFrame_26 rfl ?_
      refine gf_X3_roomFrames hx wf_X3_25 dX3_gatherFrame_27 ?_
      refine z_iconst hx (n := 1) dX3_gatherFrame_30 ?_
      refine z_iadd hx dX3_gatherFrame_31 ?_
      refine pf_X3_roomFrames hx wf_X3_25 dX3_gatherFrame_32 h (fun σ2 h => ?_)
      refine z_sub [0, 1, 2] rfl ?_
      exact w_X3_gatherFrame_b35 hx hn hR hq σ2 x1 x2 h

theorem met_X3_gatherFrame (l : Launch) (g : zG) (hg : g.1 = 0) {σ : zS} {x1 : Int} {x2 : Int} {rr : Unit × zS} (h : f_X3_gatherFrame σ x1 x2 = some rr) : z_Met l yX3_gatherFrame cX3_gatherFrame 3 none rm_X3_gatherFrame g [.ref (z_ad (g) 54), .int (zi x1), .int (zi x2)] σ (z_QV g rr.2) := by
  refine z_enter (own := RX3) (sd := 0) (lv0 := [(0, .ref (z_ad (g) 54)), (1, .int (zi x1)), (2, .int (zi x2))]) (by decide) rfl (Nat.le_of_ble_eq_true rfl) hg rfl (fun C hx hl hgC hR hn hq => ?_)
  subst hgC
  refine z_sub [0, 1, 2] rfl ?_
  exact w_X3_gatherFrame hx hn hR hq σ x1 x2 h
theorem dX3_gatherRoomAndNoise_0 : decode cX3_gatherRoomAndNoise 0 = .ok (.aload_n 0, 1) := by decide +kernel
theorem dX3_gatherRoomAndNoise_1 : decode cX3_gatherRoomAndNoise 1 = .ok (.iconst 0, 1) := by decide +kernel
theorem dX3_gatherRoomAndNoise_2 : decode cX3_gatherRoomAndNoise 2 = .ok (.putfield 25, 3) := by decide +kernel
theorem dX3_gatherRoomAndNoise_5 : decode cX3_gatherRoomAndNoise 5 = .ok (.aload_n 0, 1) := by decide +kernel
theorem dX3_gatherRoomAndNoise_6 : decode cX3_gatherRoomAndNoise 6 = .ok (.iconst 0, 1) := by decide +kernel
theorem dX3_gatherRoomAndNoise_7 : decode cX3_gatherRoomAndNoise 7 = .ok (.putfield 28, 3) := by decide +kernel
theorem dX3_gatherRoomAndNoise_10 : decode cX3_gatherRoomAndNoise 10 = .ok (.iconst 0, 1) := by decide +kernel
theorem dX3_gatherRoomAndNoise_11 : decode cX3_gatherRoomAndNoise 11 = .ok (.istore_n 2, 1) := by decide +kernel
theorem dX3_gatherRoomAndNoise_12 : decode cX3_gatherRoomAndNoise 12 = .ok (.iload_n 2, 1) := by decide +kernel
theorem dX3_gatherRoomAndNoise_13 : decode cX3_gatherRoomAndNoise 13 = .ok (.sipush 200, 3) := by decide +kernel
theorem dX3_gatherRoomAndNoise_16 : decode cX3_gatherRoomAndNoise 16 = .ok (.if_icmp .ge 16, 3) := by decide +kernel
theorem dX3_gatherRoomAndNoise_19 : decode cX3_gatherRoomAndNoise 19 = .ok (.aload_n 0, 1) := by decide +kernel
theorem dX3_gatherRoomAndNoise_20 : decode cX3_gatherRoomAndNoise 20 = .ok (.getfield 31, 3) := by decide +kernel
theorem dX3_gatherRoomAndNoise_23 : decode cX3_gatherRoomAndNoise 23 = .ok (.iload_n 2, 1) := by decide +kernel
theorem dX3_gatherRoomAndNoise_24 : decode cX3_gatherRoomAndNoise 24 = .ok (.iconst 0, 1) := by decide +kernel
theorem dX3_gatherRoomAndNoise_25 : decode cX3_gatherRoomAndNoise 25 = .ok (.bastore, 1) := by decide +kernel
theorem dX3_gatherRoomAndNoise_26 : decode cX3_gatherRoomAndNoise 26 = .ok (.iinc 2 1, 3) := by decide +kernel
theorem dX3_gatherRoomAndNoise_29 : decode cX3_gatherRoomAndNoise 29 = .ok (.goto (-17), 3) := by decide +kernel
theorem dX3_gatherRoomAndNoise_32 : decode cX3_gatherRoomAndNoise 32 = .ok (.iconst 0, 1) := by decide +kernel
theorem dX3_gatherRoomAndNoise_33 : decode cX3_gatherRoomAndNoise 33 = .ok (.istore_n 2, 1) := by decide +kernel
theorem dX3_gatherRoomAndNoise_34 : decode cX3_gatherRoomAndNoise 34 = .ok (.iload_n 2, 1) := by decide +kernel
theorem dX3_gatherRoomAndNoise_35 : decode cX3_gatherRoomAndNoise 35 = .ok (.aload_n 1, 1) := by decide +kernel
theorem dX3_gatherRoomAndNoise_36 : decode cX3_gatherRoomAndNoise 36 = .ok (.getfield 64, 3) := by decide +kernel
theorem dX3_gatherRoomAndNoise_39 : decode cX3_gatherRoomAndNoise 39 = .ok (.if_icmp .ge 43, 3) := by decide +kernel
theorem dX3_gatherRoomAndNoise_42 : decode cX3_gatherRoomAndNoise 42 = .ok (.aload_n 1, 1) := by decide +kernel
theorem dX3_gatherRoomAndNoise_43 : decode cX3_gatherRoomAndNoise 43 = .ok (.getfield 67, 3) := by decide +kernel
theorem dX3_gatherRoomAndNoise_46 : decode cX3_gatherRoomAndNoise 46 = .ok (.iload_n 2, 1) := by decide +kernel
theorem dX3_gatherRoomAndNoise_47 : decode cX3_gatherRoomAndNoise 47 = .ok (.iaload, 1) := by decide +kernel
theorem dX3_gatherRoomAndNoise_48 : decode cX3_gatherRoomAndNoise 48 = .ok (.istore_n 3, 1) := by decide +kernel
theorem dX3_gatherRoomAndNoise_49 : decode cX3_gatherRoomAndNoise 49 = .ok (.iload_n 3, 1) := by decide +kernel
theorem dX3_gatherRoomAndNoise_50 : decode cX3_gatherRoomAndNoise 50 = .ok (.aload_n 1, 1) := by decide +kernel
theorem dX3_gatherRoomAndNoise_51 : decode cX3_gatherRoomAndNoise 51 = .ok (.getfield 70, 3) := by decide +kernel
theorem dX3_gatherRoomAndNoise_54 : decode cX3_gatherRoomAndNoise 54 = .ok (.iload_n 2, 1) := by decide +kernel
theorem dX3_gatherRoomAndNoise_55 : decode cX3_gatherRoomAndNoise 55 = .ok (.iaload, 1) := by decide +kernel
theorem dX3_gatherRoomAndNoise_56 : decode cX3_gatherRoomAndNoise 56 = .ok (.if_icmp .ge 20, 3) := by decide +kernel
theorem dX3_gatherRoomAndNoise_59 : decode cX3_gatherRoomAndNoise 59 = .ok (.aload_n 0, 1) := by decide +kernel
theorem dX3_gatherRoomAndNoise_60 : decode cX3_gatherRoomAndNoise 60 = .ok (.iload_n 3, 1) := by decide +kernel
theorem dX3_gatherRoomAndNoise_61 : decode cX3_gatherRoomAndNoise 61 = .ok (.aload_n 1, 1) := by decide +kernel
theorem dX3_gatherRoomAndNoise_62 : decode cX3_gatherRoomAndNoise 62 = .ok (.getfield 71, 3) := by decide +kernel
theorem dX3_gatherRoomAndNoise_65 : decode cX3_gatherRoomAndNoise 65 = .ok (.iload_n 2, 1) := by decide +kernel
theorem dX3_gatherRoomAndNoise_66 : decode cX3_gatherRoomAndNoise 66 = .ok (.iaload, 1) := by decide +kernel
theorem dX3_gatherRoomAndNoise_67 : decode cX3_gatherRoomAndNoise 67 = .ok (.invokevirtual 74, 3) := by decide +kernel
theorem dX3_gatherRoomAndNoise_70 : decode cX3_gatherRoomAndNoise 70 = .ok (.iinc 3 1, 3) := by decide +kernel
theorem dX3_gatherRoomAndNoise_73 : decode cX3_gatherRoomAndNoise 73 = .ok (.goto (-24), 3) := by decide +kernel
theorem dX3_gatherRoomAndNoise_76 : decode cX3_gatherRoomAndNoise 76 = .ok (.iinc 2 1, 3) := by decide +kernel
theorem dX3_gatherRoomAndNoise_79 : decode cX3_gatherRoomAndNoise 79 = .ok (.goto (-45), 3) := by decide +kernel
theorem dX3_gatherRoomAndNoise_82 : decode cX3_gatherRoomAndNoise 82 = .ok (.return_, 1) := by decide +kernel
abbrev rm_X3_gatherRoomAndNoise : Room := { frames := 1, cells := 0, slots := 0, locals := 22 }
theorem w_X3_gatherRoomAndNoise_b49 {C : zC} (hx : z_ok C cX3_gatherRoomAndNoise RX3 0) (hn : z_nL C = 4) (hR : z_R C = rm_X3_gatherRoomAndNoise) {rr : Unit × zS} (hq : z_fin C none (z_QV (z_g C) rr.2)) {K34 : zS → Int → Option (Unit × zS)} (hK34 : ∀ (σ : zS) (x2 : Int) , K34 σ x2 = some rr → z_W C σ 34 [(0, .ref (z_ad (z_g C) 54)), (1, .ref (z_ad (z_g C) 0)), (2, .int (zi x2))] []) {K49 : zS → Int → Int → Option (Unit × zS)} (hK49 : ∀ (σ : zS) (x2 : Int) (x3 : Int) , K49 σ x2 x3 = some rr → z_W C σ 49 [(0, .ref (z_ad (z_g C) 54)), (1, .ref (z_ad (z_g C) 0)), (2, .int (zi x2)), (3, .int (zi x3))] []) (σ : zS) (x2 : Int) (x3 : Int) (h : f_X3_gatherRoomAndNoise_b49 K34 K49 σ x2 x3 = some rr) : z_W C σ 49 [(0, .ref (z_ad (z_g C) 54)), (1, .ref (z_ad (z_g C) 0)), (2, .int (zi x2)), (3, .int (zi x3))] [] := by
  unfold f_X3_gatherRoomAndNoise_b49 at h
  refine z_iload_n hx 3 dX3_gatherRoomAndNoise_49 rfl ?_
  refine z_aload_n hx 1 dX3_gatherRoomAndNoise_50 rfl ?_
  refine gf_X2_ends hx wf_X3_70 (show 0 < 6 by decide) dX3_gatherRoomAndNoise_51 ?_
  refine z_iload_n hx 2 dX3_gatherRoomAndNoise_54 rfl ?_
  refine z_iald hx (n := 20) (z_lt0 (z_ok_sd hx) (by decide)) (z_ka4 (z_ok_sd hx) (show 0 < 6 by decide) _) rfl (by decide) dX3_gatherRoomAndNoise_55 h (fun h => ?_)
  refine z_icmp_ge hx (tgt := 76) dX3_gatherRoomAndNoise_56 (by decide) h (fun h => h) (fun hc h => ?_) (fun hc h => ?_)
  · refine z_iinc hx hn 2 (lv' := [(2, .int (zi (x2 + 1))), (0, .ref (z_ad (z_g C) 54)), (1, .ref (z_ad (z_g C) 0)), (3, .int (zi x3))]) dX3_gatherRoomAndNoise_76 rfl (by decide) rfl ?_
    refine z_goto hx (tgt := 34) dX3_gatherRoomAndNoise_79 (by decide) ?_
    refine z_sub [1, 2, 0] rfl ?_
    exact hK34 σ (x2 + 1) h
  · refine z_aload_n hx 0 dX3_gatherRoomAndNoise_59 rfl ?_
    refine z_iload_n hx 3 dX3_gatherRoomAndNoise_60 rfl ?_
    refine z_aload_n hx 1 dX3_gatherRoomAndNoise_61 rfl ?_
    refine gf_X2_kinds hx wf_X3_71 (show 0 < 6 by decide) dX3_gatherRoomAndNoise_62 ?_
    refine z_iload_n hx 2 dX3_gatherRoomAndNoise_65 rfl ?_
    refine z_iald hx (n := 20) (z_lt0 (z_ok_sd hx) (by decide)) (z_ka2 (z_ok_sd hx) (show 0 < 6 by decide) _) rfl (by decide) dX3_gatherRoomAndNoise_66 h (fun h => ?_)
    obtain ⟨⟨⟩, σ1, h67, h⟩ := z_bind_some h
    refine z_callv hx (As := [.int (zi x3), .int (zi (σ 2 x2))]) (k := 54) (met_X3_gatherFrame (z_l C) (z_g C) (z_ok_sd hx) h67) (z_lt0 (z_ok_sd hx) (by decide)) (z_kb54 (z_ok_sd hx) _) rfl rfl cv_X3_74 (z_room hR ⟨Nat.le_of_ble_eq_true rfl, Nat.le_of_ble_eq_true rfl⟩) ⟨rfl, rfl⟩ rfl rfl (Nat.le_of_ble_eq_true rfl) dX3_gatherRoomAndNoise_67 ?_
    refine z_iinc hx hn 3 (lv' := [(3, .int (zi (x3 + 1))), (0, .ref (z_ad (z_g C) 54)), (1, .ref (z_ad (z_g C) 0)), (2, .int (zi x2))]) dX3_gatherRoomAndNoise_70 rfl (by decide) rfl ?_
    refine z_goto hx (tgt := 49) dX3_gatherRoomAndNoise_73 (by decide) ?_
    refine z_sub [1, 2, 3, 0] rfl ?_
    exact hK49 σ1 x2 (x3 + 1) h

theorem w_X3_gatherRoomAndNoise_l49 {C : zC} (hx : z_ok C cX3_gatherRoomAndNoise RX3 0) (hn : z_nL C = 4) (hR : z_R C = rm_X3_gatherRoomAndNoise) {rr : Unit × zS} (hq : z_fin C none (z_QV (z_g C) rr.2)) {K34 : zS → Int → Option (Unit × zS)} (hK34 : ∀ (σ : zS) (x2 : Int) , K34 σ x2 = some rr → z_W C σ 34 [(0, .ref (z_ad (z_g C) 54)), (1, .ref (z_ad (z_g C) 0)), (2, .int (zi x2))] []) : ∀ (n : Nat) (σ : zS) (x2 : Int) (x3 : Int) (_ : f_X3_gatherRoomAndNoise_l49 K34 n σ x2 x3 = some rr), z_W C σ 49 [(0, .ref (z_ad (z_g C) 54)), (1, .ref (z_ad (z_g C) 0)), (2, .int (zi x2)), (3, .int (zi x3))] [] := by
  intro n
  induction n with
  | zero => intro σ x2 x3 h; cases h
  | succ n ih =>
    intro σ x2 x3 h
    exact w_X3_gatherRoomAndNoise_b49 hx hn hR hq hK34 ih σ x2 x3 h
theorem w_X3_gatherRoomAndNoise_b34 {C : zC} (hx : z_ok C cX3_gatherRoomAndNoise RX3 0) (hn : z_nL C = 4) (hR : z_R C = rm_X3_gatherRoomAndNoise) {rr : Unit × zS} (hq : z_fin C none (z_QV (z_g C) rr.2)) {K34 : zS → Int → Option (Unit × zS)} (hK34 : ∀ (σ : zS) (x2 : Int) , K34 σ x2 = some rr → z_W C σ 34 [(0, .ref (z_ad (z_g C) 54)), (1, .ref (z_ad (z_g C) 0)), (2, .int (zi x2))] []) (σ : zS) (x2 : Int) (h : f_X3_gatherRoomAndNoise_b34 K34 σ x2 = some rr) : z_W C σ 34 [(0, .ref (z_ad (z_g C) 54)), (1, .ref (z_ad (z_g C) 0)), (2, .int (zi x2))] [] := by
  unfold f_X3_gatherRoomAndNoise_b34 at h
  refine z_iload_n hx 2 dX3_gatherRoomAndNoise_34 rfl ?_
  refine z_aload_n hx 1 dX3_gatherRoomAndNoise_35 rfl ?_
  refine gf_X2_marks hx wf_X3_64 (show 0 < 6 by decide) dX3_gatherRoomAndNoise_36 ?_
  refine z_icmp_ge hx (tgt := 82) dX3_gatherRoomAndNoise_39 (by decide) h (fun h => h) (fun hc h => ?_) (fun hc h => ?_)
  · cases h
    exact z_vret hx hq dX3_gatherRoomAndNoise_82
  · refine z_aload_n hx 1 dX3_gatherRoomAndNoise_42 rfl ?_
    refine gf_X2_firsts hx wf_X3_67 (show 0 < 6 by decide) dX3_gatherRoomAndNoise_43 ?_
    refine z_iload_n hx 2 dX3_gatherRoomAndNoise_46 rfl ?_
    refine z_iald hx (n := 20) (z_lt0 (z_ok_sd hx) (by decide)) (z_ka3 (z_ok_sd hx) (show 0 < 6 by decide) _) rfl (by decide) dX3_gatherRoomAndNoise_47 h (fun h => ?_)
    refine z_istore_n hx hn (lv' := [(3, .int (zi (σ 3 x2))), (0, .ref (z_ad (z_g C) 54)), (1, .ref (z_ad (z_g C) 0)), (2, .int (zi x2))]) dX3_gatherRoomAndNoise_48 (by decide) rfl ?_
    refine z_sub [1, 2, 3, 0] rfl ?_
    exact w_X3_gatherRoomAndNoise_l49 hx hn hR hq hK34 z_fuel σ x2 (σ 3 x2) h

theorem w_X3_gatherRoomAndNoise_l34 {C : zC} (hx : z_ok C cX3_gatherRoomAndNoise RX3 0) (hn : z_nL C = 4) (hR : z_R C = rm_X3_gatherRoomAndNoise) {rr : Unit × zS} (hq : z_fin C none (z_QV (z_g C) rr.2)) : ∀ (n : Nat) (σ : zS) (x2 : Int) (_ : f_X3_gatherRoomAndNoise_l34 n σ x2 = some rr), z_W C σ 34 [(0, .ref (z_ad (z_g C) 54)), (1, .ref (z_ad (z_g C) 0)), (2, .int (zi x2))] [] := by
  intro n
  induction n with
  | zero => intro σ x2 h; cases h
  | succ n ih =>
    intro σ x2 h
    exact w_X3_gatherRoomAndNoise_b34 hx hn hR hq ih σ x2 h
theorem w_X3_gatherRoomAndNoise_b12 {C : zC} (hx : z_ok C cX3_gatherRoomAndNoise RX3 0) (hn : z_nL C = 4) (hR : z_R C = rm_X3_gatherRoomAndNoise) {rr : Unit × zS} (hq : z_fin C none (z_QV (z_g C) rr.2)) {K12 : zS → Int → Option (Unit × zS)} (hK12 : ∀ (σ : zS) (x2 : Int) , K12 σ x2 = some rr → z_W C σ 12 [(0, .ref (z_ad (z_g C) 54)), (1, .ref (z_ad (z_g C) 0)), (2, .int (zi x2))] []) (σ : zS) (x2 : Int) (h : f_X3_gatherRoomAndNoise_b12 K12 σ x2 = some rr) : z_W C σ 12 [(0, .ref (z_ad (z_g C) 54)), (1, .ref (z_ad (z_g C) 0)), (2, .int (zi x2))] [] := by
  unfold f_X3_gatherRoomAndNoise_b12 at h
  refine z_iload_n hx 2 dX3_gatherRoomAndNoise_12 rfl ?_
  refine z_sipush hx (n := 200) dX3_gatherRoomAndNoise_13 rfl ?_
  refine z_icmp_ge hx (tgt := 32) dX3_gatherRoomAndNoise_16 (by decide) h (fun h => ⟨h, by decide⟩) (fun hc h => ?_) (fun hc h => ?_)
  · refine z_iconst hx (n := 0) dX3_gatherRoomAndNoise_32 ?_
    refine z_istore_n hx hn (lv' := [(2, .int (zi 0)), (0, .ref (z_ad (z_g C) 54)), (1, .ref (z_ad (z_g C) 0))]) dX3_gatherRoomAndNoise_33 (by decide) rfl ?_
    refine z_sub [1, 2, 0] rfl ?_
    exact w_X3_gatherRoomAndNoise_l34 hx hn hR hq z_fuel σ 0 h
  · refine z_aload_n hx 0 dX3_gatherRoomAndNoise_19 rfl ?_
    refine gf_X3_noisy hx wf_X3_31 dX3_gatherRoomAndNoise_20 ?_
    refine z_iload_n hx 2 dX3_gatherRoomAndNoise_23 rfl ?_
    refine z_iconst hx (n := 0) dX3_gatherRoomAndNoise_24 ?_
    refine z_zast hx (n := 200) (z_lt0 (z_ok_sd hx) (by decide)) (z_kb58 (z_ok_sd hx)) rfl (by decide) dX3_gatherRoomAndNoise_25 h (fun σ1 h => ?_)
    refine z_iinc hx hn 2 (lv' := [(2, .int (zi (x2 + 1))), (0, .ref (z_ad (z_g C) 54)), (1, .ref (z_ad (z_g C) 0))]) dX3_gatherRoomAndNoise_26 rfl (by decide) rfl ?_
    refine z_goto hx (tgt := 12) dX3_gatherRoomAndNoise_29 (by decide) ?_
    refine z_sub [1, 2, 0] rfl ?_
    exact hK12 σ1 (x2 + 1) h

theorem w_X3_gatherRoomAndNoise_l12 {C : zC} (hx : z_ok C cX3_gatherRoomAndNoise RX3 0) (hn : z_nL C = 4) (hR : z_R C = rm_X3_gatherRoomAndNoise) {rr : Unit × zS} (hq : z_fin C none (z_QV (z_g C) rr.2)) : ∀ (n : Nat) (σ : zS) (x2 : Int) (_ : f_X3_gatherRoomAndNoise_l12 n σ x2 = some rr), z_W C σ 12 [(0, .ref (z_ad (z_g C) 54)), (1, .ref (z_ad (z_g C) 0)), (2, .int (zi x2))] [] := by
  intro n
  induction n with
  | zero => intro σ x2 h; cases h
  | succ n ih =>
    intro σ x2 h
    exact w_X3_gatherRoomAndNoise_b12 hx hn hR hq ih σ x2 h
theorem w_X3_gatherRoomAndNoise {C : zC} (hx : z_ok C cX3_gatherRoomAndNoise RX3 0) (hn : z_nL C = 4) (hR : z_R C = rm_X3_gatherRoomAndNoise) {rr : Unit × zS} (hq : z_fin C none (z_QV (z_g C) rr.2)) (σ : zS) (h : f_X3_gatherRoomAndNoise σ = some rr) : z_W C σ 0 [(0, .ref (z_ad (z_g C) 54)), (1, .ref (z_ad (z_g C) 0))] [] := by
  unfold f_X3_gatherRoomAndNoise at h
  refine z_aload_n hx 0 dX3_gatherRoomAndNoise_0 rfl ?_
  refine z_iconst hx (n := 0) dX3_gatherRoomAndNoise_1 ?_
  refine pf_X3_roomFrames hx wf_X3_25 dX3_gatherRoomAndNoise_2 h (fun σ1 h => ?_)
  refine z_aload_n hx 0 dX3_gatherRoomAndNoise_5 rfl ?_
  refine z_iconst hx (n := 0) dX3_gatherRoomAndNoise_6 ?_
  refine pf_X3_roomPlace hx wf_X3_28 dX3_gatherRoomAndNoise_7 h (fun σ2 h => ?_)
  refine z_iconst hx (n := 0) dX3_gatherRoomAndNoise_10 ?_
  refine z_istore_n hx hn (lv' := [(2, .int (zi 0)), (0, .ref (z_ad (z_g C) 54)), (1, .ref (z_ad (z_g C) 0))]) dX3_gatherRoomAndNoise_11 (by decide) rfl ?_
  refine z_sub [1, 2, 0] rfl ?_
  exact w_X3_gatherRoomAndNoise_l12 hx hn hR hq z_fuel σ2 0 h

theorem met_X3_gatherRoomAndNoise (l : Launch) (g : zG) (hg : g.1 = 0) {σ : zS} {rr : Unit × zS} (h : f_X3_gatherRoomAndNoise σ = some rr) : z_Met l yX3_gatherRoomAndNoise cX3_gatherRoomAndNoise 4 none rm_X3_gatherRoomAndNoise g [.ref (z_ad (g) 54), .ref (z_ad (g) 0)] σ (z_QV g rr.2) := by
  refine z_enter (own := RX3) (sd := 0) (lv0 := [(0, .ref (z_ad (g) 54)), (1, .ref (z_ad (g) 0))]) (by decide) rfl (Nat.le_of_ble_eq_true rfl) hg rfl (fun C hx hl hgC hR hn hq => ?_)
  subst hgC
  refine z_sub [0, 1] rfl ?_
  exact w_X3_gatherRoomAndNoise hx hn hR hq σ h
theorem dX3_add_0 : decode cX3_add 0 = .ok (.aload_n 0, 1) := by decide +kernel
theorem dX3_add_1 : decode cX3_add 1 = .ok (.getfield 18, 3) := by decide +kernel
theorem dX3_add_4 : decode cX3_add 4 = .ok (.sipush 200, 3) := by decide +kernel
theorem dX3_add_7 : decode cX3_add 7 = .ok (.if_icmp .ge 33, 3) := by decide +kernel
theorem dX3_add_10 : decode cX3_add 10 = .ok (.aload_n 0, 1) := by decide +kernel
theorem dX3_add_11 : decode cX3_add 11 = .ok (.getfield 9, 3) := by decide +kernel
theorem dX3_add_14 : decode cX3_add 14 = .ok (.aload_n 0, 1) := by decide +kernel
theorem dX3_add_15 : decode cX3_add 15 = .ok (.getfield 18, 3) := by decide +kernel
theorem dX3_add_18 : decode cX3_add 18 = .ok (.iload_n 1, 1) := by decide +kernel
theorem dX3_add_19 : decode cX3_add 19 = .ok (.iastore, 1) := by decide +kernel
theorem dX3_add_20 : decode cX3_add 20 = .ok (.aload_n 0, 1) := by decide +kernel
theorem dX3_add_21 : decode cX3_add 21 = .ok (.getfield 15, 3) := by decide +kernel
theorem dX3_add_24 : decode cX3_add 24 = .ok (.aload_n 0, 1) := by decide +kernel
theorem dX3_add_25 : decode cX3_add 25 = .ok (.getfield 18, 3) := by decide +kernel
theorem dX3_add_28 : decode cX3_add 28 = .ok (.iload_n 2, 1) := by decide +kernel
theorem dX3_add_29 : decode cX3_add 29 = .ok (.iastore, 1) := by decide +kernel
theorem dX3_add_30 : decode cX3_add 30 = .ok (.aload_n 0, 1) := by decide +kernel
theorem dX3_add_31 : decode cX3_add 31 = .ok (.dup, 1) := by decide +kernel
theorem dX3_add_32 : decode cX3_add 32 = .ok (.getfield 18, 3) := by decide +kernel
theorem dX3_add_35 : decode cX3_add 35 = .ok (.iconst 1, 1) := by decide +kernel
theorem dX3_add_36 : decode cX3_add 36 = .ok (.iadd, 1) := by decide +kernel
theorem dX3_add_37 : decode cX3_add 37 = .ok (.putfield 18, 3) := by decide +kernel
theorem dX3_add_40 : decode cX3_add 40 = .ok (.return_, 1) := by decide +kernel
abbrev rm_X3_add : Room := { frames := 0, cells := 0, slots := 0, locals := 0 }
theorem w_X3_add_b40 {C : zC} (hx : z_ok C cX3_add RX3 0) (hn : z_nL C = 3) (hR : z_R C = rm_X3_add) {rr : Unit × zS} (hq : z_fin C none (z_QV (z_g C) rr.2)) (σ : zS) (h : f_X3_add_b40 σ = some rr) : z_W C σ 40 [] [] := by
  unfold f_X3_add_b40 at h
  cases h
  exact z_vret hx hq dX3_add_40

theorem w_X3_add {C : zC} (hx : z_ok C cX3_add RX3 0) (hn : z_nL C = 3) (hR : z_R C = rm_X3_add) {rr : Unit × zS} (hq : z_fin C none (z_QV (z_g C) rr.2)) (σ : zS) (x1 : Int) (x2 : Int) (h : f_X3_add σ x1 x2 = some rr) : z_W C σ 0 [(0, .ref (z_ad (z_g C) 54)), (1, .int (zi x1)), (2, .int (zi x2))] [] := by
  unfold f_X3_add at h
  refine z_aload_n hx 0 dX3_add_0 rfl ?_
  refine gf_X3_count hx wf_X3_18 dX3_add_1 ?_
  refine z_sipush hx (n := 200) dX3_add_4 rfl ?_
  refine z_icmp_ge hx (tgt := 40) dX3_add_7 (by decide) h (fun h => ⟨h, by decide⟩) (fun hc h => ?_) (fun hc h => ?_)
  · refine z_sub [] rfl ?_
    exact w_X3_add_b40 hx hn hR hq σ h
  · refine z_aload_n hx 0 dX3_add_10 rfl ?_
    refine gf_X3_sources hx wf_X3_9 dX3_add_11 ?_
    refine z_aload_n hx 0 dX3_add_14 rfl ?_
    refine gf_X3_count hx wf_X3_18 dX3_add_15 ?_
    refine z_iload_n hx 1 dX3_add_18 rfl ?_
    refine z_iast hx (n := 200) (z_lt0 (z_ok_sd hx) (by decide)) (z_kb55 (z_ok_sd hx)) rfl (by decide) dX3_add_19 h (fun σ1 h => ?_)
    refine z_aload_n hx 0 dX3_add_20 rfl ?_
    refine gf_X3_levels hx wf_X3_15 dX3_add_21 ?_
    refine z_aload_n hx 0 dX3_add_24 rfl ?_
    refine gf_X3_count hx wf_X3_18 dX3_add_25 ?_
    refine z_iload_n hx 2 dX3_add_28 rfl ?_
    refine z_iast hx (n := 200) (z_lt0 (z_ok_sd hx) (by decide)) (z_kb56 (z_ok_sd hx)) rfl (by decide) dX3_add_29 h (fun σ2 h => ?_)
    refine z_aload_n hx 0 dX3_add_30 rfl ?_
    refine z_dup hx dX3_add_31 rfl ?_
    refine gf_X3_count hx wf_X3_18 dX3_add_32 ?_
    refine z_iconst hx (n := 1) dX3_add_35 ?_
    refine z_iadd hx dX3_add_36 ?_
    refine pf_X3_count hx wf_X3_18 dX3_add_37 h (fun σ3 h => ?_)
    refine z_sub [] rfl ?_
    exact w_X3_add_b40 hx hn hR hq σ3 h

theorem met_X3_add (l : Launch) (g : zG) (hg : g.1 = 0) {σ : zS} {x1 : Int} {x2 : Int} {rr : Unit × zS} (h : f_X3_add σ x1 x2 = some rr) : z_Met l yX3_add cX3_add 3 none rm_X3_add g [.ref (z_ad (g) 54), .int (zi x1), .int (zi x2)] σ (z_QV g rr.2) := by
  refine z_enter (own := RX3) (sd := 0) (lv0 := [(0, .ref (z_ad (g) 54)), (1, .int (zi x1)), (2, .int (zi x2))]) (by decide) rfl (Nat.le_of_ble_eq_true rfl) hg rfl (fun C hx hl hgC hR hn hq => ?_)
  subst hgC
  refine z_sub [0, 1, 2] rfl ?_
  exact w_X3_add hx hn hR hq σ x1 x2 h
theorem dX3_addRecorded_0 : decode cX3_addRecorded 0 = .ok (.iload_n 2, 1) := by decide +kernel
theorem dX3_addRecorded_1 : decode cX3_addRecorded 1 = .ok (.istore 4, 2) := by decide +kernel
theorem dX3_addRecorded_3 : decode cX3_addRecorded 3 = .ok (.iload 4, 2) := by decide +kernel
theorem dX3_addRecorded_5 : decode cX3_addRecorded 5 = .ok (.iload_n 3, 1) := by decide +kernel
theorem dX3_addRecorded_6 : decode cX3_addRecorded 6 = .ok (.if_icmp .ge 51, 3) := by decide +kernel
theorem dX3_addRecorded_9 : decode cX3_addRecorded 9 = .ok (.aload_n 1, 1) := by decide +kernel
theorem dX3_addRecorded_10 : decode cX3_addRecorded 10 = .ok (.iload 4, 2) := by decide +kernel
theorem dX3_addRecorded_12 : decode cX3_addRecorded 12 = .ok (.invokevirtual 78, 3) := by decide +kernel
theorem dX3_addRecorded_15 : decode cX3_addRecorded 15 = .ok (.ifCond .eq 36, 3) := by decide +kernel
theorem dX3_addRecorded_18 : decode cX3_addRecorded 18 = .ok (.aload_n 1, 1) := by decide +kernel
theorem dX3_addRecorded_19 : decode cX3_addRecorded 19 = .ok (.iload 4, 2) := by decide +kernel
theorem dX3_addRecorded_21 : decode cX3_addRecorded 21 = .ok (.invokevirtual 82, 3) := by decide +kernel
theorem dX3_addRecorded_24 : decode cX3_addRecorded 24 = .ok (.istore 5, 2) := by decide +kernel
theorem dX3_addRecorded_26 : decode cX3_addRecorded 26 = .ok (.aload_n 0, 1) := by decide +kernel
theorem dX3_addRecorded_27 : decode cX3_addRecorded 27 = .ok (.iload 4, 2) := by decide +kernel
theorem dX3_addRecorded_29 : decode cX3_addRecorded 29 = .ok (.aload_n 0, 1) := by decide +kernel
theorem dX3_addRecorded_30 : decode cX3_addRecorded 30 = .ok (.getfield 31, 3) := by decide +kernel
theorem dX3_addRecorded_33 : decode cX3_addRecorded 33 = .ok (.iload 4, 2) := by decide +kernel
theorem dX3_addRecorded_35 : decode cX3_addRecorded 35 = .ok (.baload, 1) := by decide +kernel
theorem dX3_addRecorded_36 : decode cX3_addRecorded 36 = .ok (.ifCond .eq 10, 3) := by decide +kernel
theorem dX3_addRecorded_39 : decode cX3_addRecorded 39 = .ok (.iload 5, 2) := by decide +kernel
theorem dX3_addRecorded_41 : decode cX3_addRecorded 41 = .ok (.iconst 2, 1) := by decide +kernel
theorem dX3_addRecorded_42 : decode cX3_addRecorded 42 = .ok (.idiv, 1) := by decide +kernel
theorem dX3_addRecorded_43 : decode cX3_addRecorded 43 = .ok (.goto 5, 3) := by decide +kernel
theorem dX3_addRecorded_46 : decode cX3_addRecorded 46 = .ok (.iload 5, 2) := by decide +kernel
theorem dX3_addRecorded_48 : decode cX3_addRecorded 48 = .ok (.invokevirtual 86, 3) := by decide +kernel
theorem dX3_addRecorded_51 : decode cX3_addRecorded 51 = .ok (.iinc 4 1, 3) := by decide +kernel
theorem dX3_addRecorded_54 : decode cX3_addRecorded 54 = .ok (.goto (-51), 3) := by decide +kernel
theorem dX3_addRecorded_57 : decode cX3_addRecorded 57 = .ok (.return_, 1) := by decide +kernel
abbrev rm_X3_addRecorded : Room := { frames := 1, cells := 0, slots := 0, locals := 22 }
theorem w_X3_addRecorded_b51 {C : zC} (hx : z_ok C cX3_addRecorded RX3 0) (hn : z_nL C = 6) (hR : z_R C = rm_X3_addRecorded) {rr : Unit × zS} (hq : z_fin C none (z_QV (z_g C) rr.2)) {K3 : zS → Int → Int → Option (Unit × zS)} (hK3 : ∀ (σ : zS) (x3 : Int) (x4 : Int) , K3 σ x3 x4 = some rr → z_W C σ 3 [(0, .ref (z_ad (z_g C) 54)), (1, .ref (z_ad (z_g C) 0)), (3, .int (zi x3)), (4, .int (zi x4))] []) (σ : zS) (x3 : Int) (x4 : Int) (h : f_X3_addRecorded_b51 K3 σ x3 x4 = some rr) : z_W C σ 51 [(0, .ref (z_ad (z_g C) 54)), (1, .ref (z_ad (z_g C) 0)), (3, .int (zi x3)), (4, .int (zi x4))] [] := by
  unfold f_X3_addRecorded_b51 at h
  refine z_iinc hx hn 3 (lv' := [(4, .int (zi (x4 + 1))), (0, .ref (z_ad (z_g C) 54)), (1, .ref (z_ad (z_g C) 0)), (3, .int (zi x3))]) dX3_addRecorded_51 rfl (by decide) rfl ?_
  refine z_goto hx (tgt := 3) dX3_addRecorded_54 (by decide) ?_
  refine z_sub [1, 2, 3, 0] rfl ?_
  exact hK3 σ x3 (x4 + 1) h

theorem w_X3_addRecorded_b48 {C : zC} (hx : z_ok C cX3_addRecorded RX3 0) (hn : z_nL C = 6) (hR : z_R C = rm_X3_addRecorded) {rr : Unit × zS} (hq : z_fin C none (z_QV (z_g C) rr.2)) {K3 : zS → Int → Int → Option (Unit × zS)} (hK3 : ∀ (σ : zS) (x3 : Int) (x4 : Int) , K3 σ x3 x4 = some rr → z_W C σ 3 [(0, .ref (z_ad (z_g C) 54)), (1, .ref (z_ad (z_g C) 0)), (3, .int (zi x3)), (4, .int (zi x4))] []) (σ : zS) (x3 : Int) (x4 : Int) (s1 : Int) (s2 : Int) (h : f_X3_addRecorded_b48 K3 σ x3 x4 s1 s2 = some rr) : z_W C σ 48 [(0, .ref (z_ad (z_g C) 54)), (1, .ref (z_ad (z_g C) 0)), (3, .int (zi x3)), (4, .int (zi x4))] [.int (zi s2), .int (zi s1), .ref (z_ad (z_g C) 54)] := by
  unfold f_X3_addRecorded_b48 at h
  obtain ⟨⟨⟩, σ1, h48, h⟩ := z_bind_some h
  refine z_callv hx (As := [.int (zi s1), .int (zi s2)]) (k := 54) (met_X3_add (z_l C) (z_g C) (z_ok_sd hx) h48) (z_lt0 (z_ok_sd hx) (by decide)) (z_kb54 (z_ok_sd hx) _) rfl rfl cv_X3_86 (z_room hR ⟨Nat.le_of_ble_eq_true rfl, Nat.le_of_ble_eq_true rfl⟩) ⟨rfl, rfl⟩ rfl rfl (Nat.le_of_ble_eq_true rfl) dX3_addRecorded_48 ?_
  refine z_sub [0, 1, 2, 3] rfl ?_
  exact w_X3_addRecorded_b51 hx hn hR hq hK3 σ1 x3 x4 h

theorem w_X3_addRecorded_b3 {C : zC} (hx : z_ok C cX3_addRecorded RX3 0) (hn : z_nL C = 6) (hR : z_R C = rm_X3_addRecorded) {rr : Unit × zS} (hq : z_fin C none (z_QV (z_g C) rr.2)) {K3 : zS → Int → Int → Option (Unit × zS)} (hK3 : ∀ (σ : zS) (x3 : Int) (x4 : Int) , K3 σ x3 x4 = some rr → z_W C σ 3 [(0, .ref (z_ad (z_g C) 54)), (1, .ref (z_ad (z_g C) 0)), (3, .int (zi x3)), (4, .int (zi x4))] []) (σ : zS) (x3 : Int) (x4 : Int) (h : f_X3_addRecorded_b3 K3 σ x3 x4 = some rr) : z_W C σ 3 [(0, .ref (z_ad (z_g C) 54)), (1, .ref (z_ad (z_g C) 0)), (3, .int (zi x3)), (4, .int (zi x4))] [] := by
  unfold f_X3_addRecorded_b3 at h
  refine z_iload hx 3 dX3_addRecorded_3 rfl ?_
  refine z_iload_n hx 2 dX3_addRecorded_5 rfl ?_
  refine z_icmp_ge hx (tgt := 57) dX3_addRecorded_6 (by decide) h (fun h => h) (fun hc h => ?_) (fun hc h => ?_)
  · cases h
    exact z_vret hx hq dX3_addRecorded_57
  · refine z_aload_n hx 1 dX3_addRecorded_9 rfl ?_
    refine z_iload hx 3 dX3_addRecorded_10 rfl ?_
    obtain ⟨r2, σ1, h12, h⟩ := z_bind_some h
    refine z_calli hx (As := [.int (zi x4)]) (k := 0) (met_X2_hasFrame (z_l C) (z_g C) (z_ok_sd hx) (show 0 < 6 by decide) h12) (z_lt0 (z_ok_sd hx) (by decide)) (z_ka0 (z_ok_sd hx) (show 0 < 6 by decide) _) rfl rfl cv_X3_78 (z_room hR ⟨Nat.le_of_ble_eq_true rfl, Nat.le_of_ble_eq_true rfl⟩) ⟨rfl, rfl⟩ rfl rfl (Nat.le_of_ble_eq_true rfl) dX3_addRecorded_12 ?_
    refine z_if_eq hx (tgt := 51) dX3_addRecorded_15 (by decide) h (fun h => h) (fun hc h => ?_) (fun hc h => ?_)
    · refine z_sub [0, 1, 2, 3] rfl ?_
      exact w_X3_addRecorded_b51 hx hn hR hq hK3 σ1 x3 x4 h
    · refine z_aload_n hx 1 dX3_addRecorded_18 rfl ?_
      refine z_iload hx 3 dX3_addRecorded_19 rfl ?_
      obtain ⟨r4, σ3, h21, h⟩ := z_bind_some h
      refine z_calli hx (As := [.int (zi x4)]) (k := 0) (met_X2_levelAt (z_l C) (z_g C) (z_ok_sd hx) (show 0 < 6 by decide) h21) (z_lt0 (z_ok_sd hx) (by decide)) (z_ka0 (z_ok_sd hx) (show 0 < 6 by decide) _) rfl rfl cv_X3_82 (z_room hR ⟨Nat.le_of_ble_eq_true rfl, Nat.le_of_ble_eq_true rfl⟩) ⟨rfl, rfl⟩ rfl rfl (Nat.le_of_ble_eq_true rfl) dX3_addRecorded_21 ?_
      refine z_istore hx hn (lv' := [(5, .int (zi r4)), (0, .ref (z_ad (z_g C) 54)), (1, .ref (z_ad (z_g C) 0)), (3, .int (zi x3)), (4, .int (zi x4))]) dX3_addRecorded_24 (by decide) rfl ?_
      refine z_aload_n hx 1 dX3_addRecorded_26 rfl ?_
      refine z_iload hx 4 dX3_addRecorded_27 rfl ?_
      refine z_aload_n hx 1 dX3_addRecorded_29 rfl ?_
      refine gf_X3_noisy hx wf_X3_31 dX3_addRecorded_30 ?_
      refine z_iload hx 4 dX3_addRecorded_33 rfl ?_
      refine z_zald hx (n := 200) (z_lt0 (z_ok_sd hx) (by decide)) (z_kb58 (z_ok_sd hx) _) rfl (by decide) dX3_addRecorded_35 h (fun h => ?_)
      refine z_if_eq hx (tgt := 46) dX3_addRecorded_36 (by decide) h (fun h => h) (fun hc h => ?_) (fun hc h => ?_)
      · refine z_iload hx 0 dX3_addRecorded_46 rfl ?_
        refine z_sub [1, 2, 3, 4] rfl ?_
        exact w_X3_addRecorded_b48 hx hn hR hq hK3 σ3 x3 x4 x4 r4 h
      · refine z_iload hx 0 dX3_addRecorded_39 rfl ?_
        refine z_iconst hx (n := 2) dX3_addRecorded_41 ?_
        refine z_idiv hx dX3_addRecorded_42 h (fun h => ?_)
        refine z_goto hx (tgt := 48) dX3_addRecorded_43 (by decide) ?_
        refine z_sub [1, 2, 3, 4] rfl ?_
        exact w_X3_addRecorded_b48 hx hn hR hq hK3 σ3 x3 x4 x4 (r4.tdiv 2) h

theorem w_X3_addRecorded_l3 {C : zC} (hx : z_ok C cX3_addRecorded RX3 0) (hn : z_nL C = 6) (hR : z_R C = rm_X3_addRecorded) {rr : Unit × zS} (hq : z_fin C none (z_QV (z_g C) rr.2)) : ∀ (n : Nat) (σ : zS) (x3 : Int) (x4 : Int) (_ : f_X3_addRecorded_l3 n σ x3 x4 = some rr), z_W C σ 3 [(0, .ref (z_ad (z_g C) 54)), (1, .ref (z_ad (z_g C) 0)), (3, .int (zi x3)), (4, .int (zi x4))] [] := by
  intro n
  induction n with
  | zero => intro σ x3 x4 h; cases h
  | succ n ih =>
    intro σ x3 x4 h
    exact w_X3_addRecorded_b3 hx hn hR hq ih σ x3 x4 h
theorem w_X3_addRecorded {C : zC} (hx : z_ok C cX3_addRecorded RX3 0) (hn : z_nL C = 6) (hR : z_R C = rm_X3_addRecorded) {rr : Unit × zS} (hq : z_fin C none (z_QV (z_g C) rr.2)) (σ : zS) (x2 : Int) (x3 : Int) (h : f_X3_addRecorded σ x2 x3 = some rr) : z_W C σ 0 [(0, .ref (z_ad (z_g C) 54)), (1, .ref (z_ad (z_g C) 0)), (2, .int (zi x2)), (3, .int (zi x3))] [] := by
  unfold f_X3_addRecorded at h
  refine z_iload_n hx 2 dX3_addRecorded_0 rfl ?_
  refine z_istore hx hn (lv' := [(4, .int (zi x2)), (0, .ref (z_ad (z_g C) 54)), (1, .ref (z_ad (z_g C) 0)), (2, .int (zi x2)), (3, .int (zi x3))]) dX3_addRecorded_1 (by decide) rfl ?_
  refine z_sub [1, 2, 4, 0] rfl ?_
  exact w_X3_addRecorded_l3 hx hn hR hq z_fuel σ x3 x2 h

theorem met_X3_addRecorded (l : Launch) (g : zG) (hg : g.1 = 0) {σ : zS} {x2 : Int} {x3 : Int} {rr : Unit × zS} (h : f_X3_addRecorded σ x2 x3 = some rr) : z_Met l yX3_addRecorded cX3_addRecorded 6 none rm_X3_addRecorded g [.ref (z_ad (g) 54), .ref (z_ad (g) 0), .int (zi x2), .int (zi x3)] σ (z_QV g rr.2) := by
  refine z_enter (own := RX3) (sd := 0) (lv0 := [(0, .ref (z_ad (g) 54)), (1, .ref (z_ad (g) 0)), (2, .int (zi x2)), (3, .int (zi x3))]) (by decide) rfl (Nat.le_of_ble_eq_true rfl) hg rfl (fun C hx hl hgC hR hn hq => ?_)
  subst hgC
  refine z_sub [0, 1, 2, 3] rfl ?_
  exact w_X3_addRecorded hx hn hR hq σ x2 x3 h
theorem dX3_nextRoomFrame_0 : decode cX3_nextRoomFrame 0 = .ok (.aload_n 0, 1) := by decide +kernel
theorem dX3_nextRoomFrame_1 : decode cX3_nextRoomFrame 1 = .ok (.getfield 28, 3) := by decide +kernel
theorem dX3_nextRoomFrame_4 : decode cX3_nextRoomFrame 4 = .ok (.aload_n 0, 1) := by decide +kernel
theorem dX3_nextRoomFrame_5 : decode cX3_nextRoomFrame 5 = .ok (.getfield 25, 3) := by decide +kernel
theorem dX3_nextRoomFrame_8 : decode cX3_nextRoomFrame 8 = .ok (.if_icmp .lt 8, 3) := by decide +kernel
theorem dX3_nextRoomFrame_11 : decode cX3_nextRoomFrame 11 = .ok (.aload_n 0, 1) := by decide +kernel
theorem dX3_nextRoomFrame_12 : decode cX3_nextRoomFrame 12 = .ok (.iconst 0, 1) := by decide +kernel
theorem dX3_nextRoomFrame_13 : decode cX3_nextRoomFrame 13 = .ok (.putfield 28, 3) := by decide +kernel
theorem dX3_nextRoomFrame_16 : decode cX3_nextRoomFrame 16 = .ok (.aload_n 0, 1) := by decide +kernel
theorem dX3_nextRoomFrame_17 : decode cX3_nextRoomFrame 17 = .ok (.getfield 22, 3) := by decide +kernel
theorem dX3_nextRoomFrame_20 : decode cX3_nextRoomFrame 20 = .ok (.aload_n 0, 1) := by decide +kernel
theorem dX3_nextRoomFrame_21 : decode cX3_nextRoomFrame 21 = .ok (.getfield 28, 3) := by decide +kernel
theorem dX3_nextRoomFrame_24 : decode cX3_nextRoomFrame 24 = .ok (.iaload, 1) := by decide +kernel
theorem dX3_nextRoomFrame_25 : decode cX3_nextRoomFrame 25 = .ok (.istore_n 1, 1) := by decide +kernel
theorem dX3_nextRoomFrame_26 : decode cX3_nextRoomFrame 26 = .ok (.aload_n 0, 1) := by decide +kernel
theorem dX3_nextRoomFrame_27 : decode cX3_nextRoomFrame 27 = .ok (.dup, 1) := by decide +kernel
theorem dX3_nextRoomFrame_28 : decode cX3_nextRoomFrame 28 = .ok (.getfield 28, 3) := by decide +kernel
theorem dX3_nextRoomFrame_31 : decode cX3_nextRoomFrame 31 = .ok (.iconst 1, 1) := by decide +kernel
theorem dX3_nextRoomFrame_32 : decode cX3_nextRoomFrame 32 = .ok (.iadd, 1) := by decide +kernel
theorem dX3_nextRoomFrame_33 : decode cX3_nextRoomFrame 33 = .ok (.putfield 28, 3) := by decide +kernel
theorem dX3_nextRoomFrame_36 : decode cX3_nextRoomFrame 36 = .ok (.iload_n 1, 1) := by decide +kernel
theorem dX3_nextRoomFrame_37 : decode cX3_nextRoomFrame 37 = .ok (.ireturn, 1) := by decide +kernel
abbrev rm_X3_nextRoomFrame : Room := { frames := 0, cells := 0, slots := 0, locals := 0 }
theorem w_X3_nextRoomFrame_b16 {C : zC} (hx : z_ok C cX3_nextRoomFrame RX3 0) (hn : z_nL C = 2) (hR : z_R C = rm_X3_nextRoomFrame) {rr : Int × zS} (hq : z_fin C (some .int) (z_QI (z_g C) rr.1 rr.2)) (σ : zS) (h : f_X3_nextRoomFrame_b16 σ = some rr) : z_W C σ 16 [(0, .ref (z_ad (z_g C) 54))] [] := by
  unfold f_X3_nextRoomFrame_b16 at h
  refine z_aload_n hx 0 dX3_nextRoomFrame_16 rfl ?_
  refine gf_X3_room hx wf_X3_22 dX3_nextRoomFrame_17 ?_
  refine z_aload_n hx 0 dX3_nextRoomFrame_20 rfl ?_
  refine gf_X3_roomPlace hx wf_X3_28 dX3_nextRoomFrame_21 ?_
  refine z_iald hx (n := 200) (z_lt0 (z_ok_sd hx) (by decide)) (z_kb57 (z_ok_sd hx) _) rfl (by decide) dX3_nextRoomFrame_24 h (fun h => ?_)
  refine z_istore_n hx hn (lv' := [(1, .int (zi (σ 57 (σ 54 5)))), (0, .ref (z_ad (z_g C) 54))]) dX3_nextRoomFrame_25 (by decide) rfl ?_
  refine z_aload_n hx 1 dX3_nextRoomFrame_26 rfl ?_
  refine z_dup hx dX3_nextRoomFrame_27 rfl ?_
  refine gf_X3_roomPlace hx wf_X3_28 dX3_nextRoomFrame_28 ?_
  refine z_iconst hx (n := 1) dX3_nextRoomFrame_31 ?_
  refine z_iadd hx dX3_nextRoomFrame_32 ?_
  refine pf_X3_roomPlace hx wf_X3_28 dX3_nextRoomFrame_33 h (fun σ1 h => ?_)
  refine z_iload_n hx 0 dX3_nextRoomFrame_36 rfl ?_
  cases h
  exact z_iret hx hq dX3_nextRoomFrame_37

theorem w_X3_nextRoomFrame {C : zC} (hx : z_ok C cX3_nextRoomFrame RX3 0) (hn : z_nL C = 2) (hR : z_R C = rm_X3_nextRoomFrame) {rr : Int × zS} (hq : z_fin C (some .int) (z_QI (z_g C) rr.1 rr.2)) (σ : zS) (h : f_X3_nextRoomFrame σ = some rr) : z_W C σ 0 [(0, .ref (z_ad (z_g C) 54))] [] := by
  unfold f_X3_nextRoomFrame at h
  refine z_aload_n hx 0 dX3_nextRoomFrame_0 rfl ?_
  refine gf_X3_roomPlace hx wf_X3_28 dX3_nextRoomFrame_1 ?_
  refine z_aload_n hx 0 dX3_nextRoomFrame_4 rfl ?_
  refine gf_X3_roomFrames hx wf_X3_25 dX3_nextRoomFrame_5 ?_
  refine z_icmp_lt hx (tgt := 16) dX3_nextRoomFrame_8 (by decide) h (fun h => h) (fun hc h => ?_) (fun hc h => ?_)
  · refine z_sub [0] rfl ?_
    exact w_X3_nextRoomFrame_b16 hx hn hR hq σ h
  · refine z_aload_n hx 0 dX3_nextRoomFrame_11 rfl ?_
    refine z_iconst hx (n := 0) dX3_nextRoomFrame_12 ?_
    refine pf_X3_roomPlace hx wf_X3_28 dX3_nextRoomFrame_13 h (fun σ1 h => ?_)
    refine z_sub [0] rfl ?_
    exact w_X3_nextRoomFrame_b16 hx hn hR hq σ1 h

theorem met_X3_nextRoomFrame (l : Launch) (g : zG) (hg : g.1 = 0) {σ : zS} {rr : Int × zS} (h : f_X3_nextRoomFrame σ = some rr) : z_Met l yX3_nextRoomFrame cX3_nextRoomFrame 2 (some .int) rm_X3_nextRoomFrame g [.ref (z_ad (g) 54)] σ (z_QI g rr.1 rr.2) := by
  refine z_enter (own := RX3) (sd := 0) (lv0 := [(0, .ref (z_ad (g) 54))]) (by decide) rfl (Nat.le_of_ble_eq_true rfl) hg rfl (fun C hx hl hgC hR hn hq => ?_)
  subst hgC
  refine z_sub [0] rfl ?_
  exact w_X3_nextRoomFrame hx hn hR hq σ h
theorem dX3_addPause_0 : decode cX3_addPause 0 = .ok (.iconst 0, 1) := by decide +kernel
theorem dX3_addPause_1 : decode cX3_addPause 1 = .ok (.istore_n 3, 1) := by decide +kernel
theorem dX3_addPause_2 : decode cX3_addPause 2 = .ok (.iload_n 3, 1) := by decide +kernel
theorem dX3_addPause_3 : decode cX3_addPause 3 = .ok (.iload_n 2, 1) := by decide +kernel
theorem dX3_addPause_4 : decode cX3_addPause 4 = .ok (.if_icmp .ge 49, 3) := by decide +kernel
theorem dX3_addPause_7 : decode cX3_addPause 7 = .ok (.aload_n 0, 1) := by decide +kernel
theorem dX3_addPause_8 : decode cX3_addPause 8 = .ok (.getfield 25, 3) := by decide +kernel
theorem dX3_addPause_11 : decode cX3_addPause 11 = .ok (.ifCond .ne 14, 3) := by decide +kernel
theorem dX3_addPause_14 : decode cX3_addPause 14 = .ok (.aload_n 0, 1) := by decide +kernel
theorem dX3_addPause_15 : decode cX3_addPause 15 = .ok (.sipush 2000, 3) := by decide +kernel
theorem dX3_addPause_18 : decode cX3_addPause 18 = .ok (.iconst 0, 1) := by decide +kernel
theorem dX3_addPause_19 : decode cX3_addPause 19 = .ok (.invokevirtual 86, 3) := by decide +kernel
theorem dX3_addPause_22 : decode cX3_addPause 22 = .ok (.goto 25, 3) := by decide +kernel
theorem dX3_addPause_25 : decode cX3_addPause 25 = .ok (.aload_n 0, 1) := by decide +kernel
theorem dX3_addPause_26 : decode cX3_addPause 26 = .ok (.invokevirtual 89, 3) := by decide +kernel
theorem dX3_addPause_29 : decode cX3_addPause 29 = .ok (.istore 4, 2) := by decide +kernel
theorem dX3_addPause_31 : decode cX3_addPause 31 = .ok (.aload_n 0, 1) := by decide +kernel
theorem dX3_addPause_32 : decode cX3_addPause 32 = .ok (.sipush 1000, 3) := by decide +kernel
theorem dX3_addPause_35 : decode cX3_addPause 35 = .ok (.iload 4, 2) := by decide +kernel
theorem dX3_addPause_37 : decode cX3_addPause 37 = .ok (.iadd, 1) := by decide +kernel
theorem dX3_addPause_38 : decode cX3_addPause 38 = .ok (.aload_n 1, 1) := by decide +kernel
theorem dX3_addPause_39 : decode cX3_addPause 39 = .ok (.iload 4, 2) := by decide +kernel
theorem dX3_addPause_41 : decode cX3_addPause 41 = .ok (.invokevirtual 82, 3) := by decide +kernel
theorem dX3_addPause_44 : decode cX3_addPause 44 = .ok (.invokevirtual 86, 3) := by decide +kernel
theorem dX3_addPause_47 : decode cX3_addPause 47 = .ok (.iinc 3 1, 3) := by decide +kernel
theorem dX3_addPause_50 : decode cX3_addPause 50 = .ok (.goto (-48), 3) := by decide +kernel
theorem dX3_addPause_53 : decode cX3_addPause 53 = .ok (.return_, 1) := by decide +kernel
abbrev rm_X3_addPause : Room := { frames := 1, cells := 0, slots := 0, locals := 22 }
theorem w_X3_addPause_b47 {C : zC} (hx : z_ok C cX3_addPause RX3 0) (hn : z_nL C = 5) (hR : z_R C = rm_X3_addPause) {rr : Unit × zS} (hq : z_fin C none (z_QV (z_g C) rr.2)) {K2 : zS → Int → Int → Option (Unit × zS)} (hK2 : ∀ (σ : zS) (x2 : Int) (x3 : Int) , K2 σ x2 x3 = some rr → z_W C σ 2 [(0, .ref (z_ad (z_g C) 54)), (1, .ref (z_ad (z_g C) 0)), (2, .int (zi x2)), (3, .int (zi x3))] []) (σ : zS) (x2 : Int) (x3 : Int) (h : f_X3_addPause_b47 K2 σ x2 x3 = some rr) : z_W C σ 47 [(0, .ref (z_ad (z_g C) 54)), (1, .ref (z_ad (z_g C) 0)), (2, .int (zi x2)), (3, .int (zi x3))] [] := by
  unfold f_X3_addPause_b47 at h
  refine z_iinc hx hn 3 (lv' := [(3, .int (zi (x3 + 1))), (0, .ref (z_ad (z_g C) 54)), (1, .ref (z_ad (z_g C) 0)), (2, .int (zi x2))]) dX3_addPause_47 rfl (by decide) rfl ?_
  refine z_goto hx (tgt := 2) dX3_addPause_50 (by decide) ?_
  refine z_sub [1, 2, 3, 0] rfl ?_
  exact hK2 σ x2 (x3 + 1) h

theorem w_X3_addPause_b2 {C : zC} (hx : z_ok C cX3_addPause RX3 0) (hn : z_nL C = 5) (hR : z_R C = rm_X3_addPause) {rr : Unit × zS} (hq : z_fin C none (z_QV (z_g C) rr.2)) {K2 : zS → Int → Int → Option (Unit × zS)} (hK2 : ∀ (σ : zS) (x2 : Int) (x3 : Int) , K2 σ x2 x3 = some rr → z_W C σ 2 [(0, .ref (z_ad (z_g C) 54)), (1, .ref (z_ad (z_g C) 0)), (2, .int (zi x2)), (3, .int (zi x3))] []) (σ : zS) (x2 : Int) (x3 : Int) (h : f_X3_addPause_b2 K2 σ x2 x3 = some rr) : z_W C σ 2 [(0, .ref (z_ad (z_g C) 54)), (1, .ref (z_ad (z_g C) 0)), (2, .int (zi x2)), (3, .int (zi x3))] [] := by
  unfold f_X3_addPause_b2 at h
  refine z_iload_n hx 3 dX3_addPause_2 rfl ?_
  refine z_iload_n hx 2 dX3_addPause_3 rfl ?_
  refine z_icmp_ge hx (tgt := 53) dX3_addPause_4 (by decide) h (fun h => h) (fun hc h => ?_) (fun hc h => ?_)
  · cases h
    exact z_vret hx hq dX3_addPause_53
  · refine z_aload_n hx 0 dX3_addPause_7 rfl ?_
    refine gf_X3_roomFrames hx wf_X3_25 dX3_addPause_8 ?_
    refine z_if_ne hx (tgt := 25) dX3_addPause_11 (by decide) h (fun h => h) (fun hc h => ?_) (fun hc h => ?_)
    · refine z_aload_n hx 0 dX3_addPause_25 rfl ?_
      obtain ⟨r2, σ1, h26, h⟩ := z_bind_some h
      refine z_calli hx (As := []) (k := 54) (met_X3_nextRoomFrame (z_l C) (z_g C) (z_ok_sd hx) h26) (z_lt0 (z_ok_sd hx) (by decide)) (z_kb54 (z_ok_sd hx) _) rfl rfl cv_X3_89 (z_room hR ⟨Nat.le_of_ble_eq_true rfl, Nat.le_of_ble_eq_true rfl⟩) ⟨rfl, rfl⟩ rfl rfl (Nat.le_of_ble_eq_true rfl) dX3_addPause_26 ?_
      refine z_istore hx hn (lv' := [(4, .int (zi r2)), (0, .ref (z_ad (z_g C) 54)), (1, .ref (z_ad (z_g C) 0)), (2, .int (zi x2)), (3, .int (zi x3))]) dX3_addPause_29 (by decide) rfl ?_
      refine z_aload_n hx 1 dX3_addPause_31 rfl ?_
      refine z_sipush hx (n := 1000) dX3_addPause_32 rfl ?_
      refine z_iload hx 0 dX3_addPause_35 rfl ?_
      refine z_iadd hx dX3_addPause_37 ?_
      refine z_aload_n hx 2 dX3_addPause_38 rfl ?_
      refine z_iload hx 0 dX3_addPause_39 rfl ?_
      obtain ⟨r4, σ3, h41, h⟩ := z_bind_some h
      refine z_calli hx (As := [.int (zi r2)]) (k := 0) (met_X2_levelAt (z_l C) (z_g C) (z_ok_sd hx) (show 0 < 6 by decide) h41) (z_lt0 (z_ok_sd hx) (by decide)) (z_ka0 (z_ok_sd hx) (show 0 < 6 by decide) _) rfl rfl cv_X3_82 (z_room hR ⟨Nat.le_of_ble_eq_true rfl, Nat.le_of_ble_eq_true rfl⟩) ⟨rfl, rfl⟩ rfl rfl (Nat.le_of_ble_eq_true rfl) dX3_addPause_41 ?_
      obtain ⟨⟨⟩, σ5, h44, h⟩ := z_bind_some h
      refine z_callv hx (As := [.int (zi (1000 + r2)), .int (zi r4)]) (k := 54) (met_X3_add (z_l C) (z_g C) (z_ok_sd hx) h44) (z_lt0 (z_ok_sd hx) (by decide)) (z_kb54 (z_ok_sd hx) _) rfl rfl cv_X3_86 (z_room hR ⟨Nat.le_of_ble_eq_true rfl, Nat.le_of_ble_eq_true rfl⟩) ⟨rfl, rfl⟩ rfl rfl (Nat.le_of_ble_eq_true rfl) dX3_addPause_44 ?_
      refine z_sub [1, 2, 3, 4] rfl ?_
      exact w_X3_addPause_b47 hx hn hR hq hK2 σ5 x2 x3 h
    · refine z_aload_n hx 0 dX3_addPause_14 rfl ?_
      refine z_sipush hx (n := 2000) dX3_addPause_15 rfl ?_
      refine z_iconst hx (n := 0) dX3_addPause_18 ?_
      obtain ⟨⟨⟩, σ6, h19, h⟩ := z_bind_some h
      refine z_callv hx (As := [.int (zi 2000), .int (zi 0)]) (k := 54) (met_X3_add (z_l C) (z_g C) (z_ok_sd hx) h19) (z_lt0 (z_ok_sd hx) (by decide)) (z_kb54 (z_ok_sd hx) _) rfl rfl cv_X3_86 (z_room hR ⟨Nat.le_of_ble_eq_true rfl, Nat.le_of_ble_eq_true rfl⟩) ⟨rfl, rfl⟩ rfl rfl (Nat.le_of_ble_eq_true rfl) dX3_addPause_19 ?_
      refine z_goto hx (tgt := 47) dX3_addPause_22 (by decide) ?_
      refine z_sub [0, 1, 2, 3] rfl ?_
      exact w_X3_addPause_b47 hx hn hR hq hK2 σ6 x2 x3 h

theorem w_X3_addPause_l2 {C : zC} (hx : z_ok C cX3_addPause RX3 0) (hn : z_nL C = 5) (hR : z_R C = rm_X3_addPause) {rr : Unit × zS} (hq : z_fin C none (z_QV (z_g C) rr.2)) : ∀ (n : Nat) (σ : zS) (x2 : Int) (x3 : Int) (_ : f_X3_addPause_l2 n σ x2 x3 = some rr), z_W C σ 2 [(0, .ref (z_ad (z_g C) 54)), (1, .ref (z_ad (z_g C) 0)), (2, .int (zi x2)), (3, .int (zi x3))] [] := by
  intro n
  induction n with
  | zero => intro σ x2 x3 h; cases h
  | succ n ih =>
    intro σ x2 x3 h
    exact w_X3_addPause_b2 hx hn hR hq ih σ x2 x3 h
theorem w_X3_addPause {C : zC} (hx : z_ok C cX3_addPause RX3 0) (hn : z_nL C = 5) (hR : z_R C = rm_X3_addPause) {rr : Unit × zS} (hq : z_fin C none (z_QV (z_g C) rr.2)) (σ : zS) (x2 : Int) (h : f_X3_addPause σ x2 = some rr) : z_W C σ 0 [(0, .ref (z_ad (z_g C) 54)), (1, .ref (z_ad (z_g C) 0)), (2, .int (zi x2))] [] := by
  unfold f_X3_addPause at h
  refine z_iconst hx (n := 0) dX3_addPause_0 ?_
  refine z_istore_n hx hn (lv' := [(3, .int (zi 0)), (0, .ref (z_ad (z_g C) 54)), (1, .ref (z_ad (z_g C) 0)), (2, .int (zi x2))]) dX3_addPause_1 (by decide) rfl ?_
  refine z_sub [1, 2, 3, 0] rfl ?_
  exact w_X3_addPause_l2 hx hn hR hq z_fuel σ x2 0 h

theorem met_X3_addPause (l : Launch) (g : zG) (hg : g.1 = 0) {σ : zS} {x2 : Int} {rr : Unit × zS} (h : f_X3_addPause σ x2 = some rr) : z_Met l yX3_addPause cX3_addPause 5 none rm_X3_addPause g [.ref (z_ad (g) 54), .ref (z_ad (g) 0), .int (zi x2)] σ (z_QV g rr.2) := by
  refine z_enter (own := RX3) (sd := 0) (lv0 := [(0, .ref (z_ad (g) 54)), (1, .ref (z_ad (g) 0)), (2, .int (zi x2))]) (by decide) rfl (Nat.le_of_ble_eq_true rfl) hg rfl (fun C hx hl hgC hR hn hq => ?_)
  subst hgC
  refine z_sub [0, 1, 2] rfl ?_
  exact w_X3_addPause hx hn hR hq σ x2 h
theorem dX3_build_0 : decode cX3_build 0 = .ok (.aload_n 0, 1) := by decide +kernel
theorem dX3_build_1 : decode cX3_build 1 = .ok (.iconst 0, 1) := by decide +kernel
theorem dX3_build_2 : decode cX3_build 2 = .ok (.putfield 18, 3) := by decide +kernel
theorem dX3_build_5 : decode cX3_build 5 = .ok (.aload_n 0, 1) := by decide +kernel
theorem dX3_build_6 : decode cX3_build 6 = .ok (.aload_n 1, 1) := by decide +kernel
theorem dX3_build_7 : decode cX3_build 7 = .ok (.invokevirtual 35, 3) := by decide +kernel
theorem dX3_build_10 : decode cX3_build 10 = .ok (.iconst 0, 1) := by decide +kernel
theorem dX3_build_11 : decode cX3_build 11 = .ok (.istore_n 3, 1) := by decide +kernel
theorem dX3_build_12 : decode cX3_build 12 = .ok (.iconst 0, 1) := by decide +kernel
theorem dX3_build_13 : decode cX3_build 13 = .ok (.istore 4, 2) := by decide +kernel
theorem dX3_build_15 : decode cX3_build 15 = .ok (.iload 4, 2) := by decide +kernel
theorem dX3_build_17 : decode cX3_build 17 = .ok (.aload_n 2, 1) := by decide +kernel
theorem dX3_build_18 : decode cX3_build 18 = .ok (.getfield 39, 3) := by decide +kernel
theorem dX3_build_21 : decode cX3_build 21 = .ok (.if_icmp .ge 42, 3) := by decide +kernel
theorem dX3_build_24 : decode cX3_build 24 = .ok (.aload_n 0, 1) := by decide +kernel
theorem dX3_build_25 : decode cX3_build 25 = .ok (.aload_n 1, 1) := by decide +kernel
theorem dX3_build_26 : decode cX3_build 26 = .ok (.iload_n 3, 1) := by decide +kernel
theorem dX3_build_27 : decode cX3_build 27 = .ok (.aload_n 2, 1) := by decide +kernel
theorem dX3_build_28 : decode cX3_build 28 = .ok (.getfield 42, 3) := by decide +kernel
theorem dX3_build_31 : decode cX3_build 31 = .ok (.iload 4, 2) := by decide +kernel
theorem dX3_build_33 : decode cX3_build 33 = .ok (.iaload, 1) := by decide +kernel
theorem dX3_build_34 : decode cX3_build 34 = .ok (.invokevirtual 45, 3) := by decide +kernel
theorem dX3_build_37 : decode cX3_build 37 = .ok (.aload_n 0, 1) := by decide +kernel
theorem dX3_build_38 : decode cX3_build 38 = .ok (.aload_n 1, 1) := by decide +kernel
theorem dX3_build_39 : decode cX3_build 39 = .ok (.aload_n 2, 1) := by decide +kernel
theorem dX3_build_40 : decode cX3_build 40 = .ok (.getfield 49, 3) := by decide +kernel
theorem dX3_build_43 : decode cX3_build 43 = .ok (.iload 4, 2) := by decide +kernel
theorem dX3_build_45 : decode cX3_build 45 = .ok (.iaload, 1) := by decide +kernel
theorem dX3_build_46 : decode cX3_build 46 = .ok (.invokevirtual 52, 3) := by decide +kernel
theorem dX3_build_49 : decode cX3_build 49 = .ok (.aload_n 2, 1) := by decide +kernel
theorem dX3_build_50 : decode cX3_build 50 = .ok (.getfield 56, 3) := by decide +kernel
theorem dX3_build_53 : decode cX3_build 53 = .ok (.iload 4, 2) := by decide +kernel
theorem dX3_build_55 : decode cX3_build 55 = .ok (.iaload, 1) := by decide +kernel
theorem dX3_build_56 : decode cX3_build 56 = .ok (.istore_n 3, 1) := by decide +kernel
theorem dX3_build_57 : decode cX3_build 57 = .ok (.iinc 4 1, 3) := by decide +kernel
theorem dX3_build_60 : decode cX3_build 60 = .ok (.goto (-45), 3) := by decide +kernel
theorem dX3_build_63 : decode cX3_build 63 = .ok (.aload_n 0, 1) := by decide +kernel
theorem dX3_build_64 : decode cX3_build 64 = .ok (.aload_n 1, 1) := by decide +kernel
theorem dX3_build_65 : decode cX3_build 65 = .ok (.iload_n 3, 1) := by decide +kernel
theorem dX3_build_66 : decode cX3_build 66 = .ok (.aload_n 1, 1) := by decide +kernel
theorem dX3_build_67 : decode cX3_build 67 = .ok (.getfield 59, 3) := by decide +kernel
theorem dX3_build_70 : decode cX3_build 70 = .ok (.invokevirtual 45, 3) := by decide +kernel
theorem dX3_build_73 : decode cX3_build 73 = .ok (.return_, 1) := by decide +kernel
abbrev rm_X3_build : Room := { frames := 2, cells := 0, slots := 0, locals := 47 }
theorem w_X3_build_b15 {C : zC} (hx : z_ok C cX3_build RX3 0) (hn : z_nL C = 5) (hR : z_R C = rm_X3_build) {rr : Unit × zS} (hq : z_fin C none (z_QV (z_g C) rr.2)) {K15 : zS → Int → Int → Option (Unit × zS)} (hK15 : ∀ (σ : zS) (x3 : Int) (x4 : Int) , K15 σ x3 x4 = some rr → z_W C σ 15 [(0, .ref (z_ad (z_g C) 54)), (1, .ref (z_ad (z_g C) 0)), (2, .ref (z_ad (z_g C) 48)), (3, .int (zi x3)), (4, .int (zi x4))] []) (σ : zS) (x3 : Int) (x4 : Int) (h : f_X3_build_b15 K15 σ x3 x4 = some rr) : z_W C σ 15 [(0, .ref (z_ad (z_g C) 54)), (1, .ref (z_ad (z_g C) 0)), (2, .ref (z_ad (z_g C) 48)), (3, .int (zi x3)), (4, .int (zi x4))] [] := by
  unfold f_X3_build_b15 at h
  refine z_iload hx 4 dX3_build_15 rfl ?_
  refine z_aload_n hx 2 dX3_build_17 rfl ?_
  refine gf_X0_count hx wf_X3_39 dX3_build_18 ?_
  refine z_icmp_ge hx (tgt := 63) dX3_build_21 (by decide) h (fun h => h) (fun hc h => ?_) (fun hc h => ?_)
  · refine z_aload_n hx 0 dX3_build_63 rfl ?_
    refine z_aload_n hx 1 dX3_build_64 rfl ?_
    refine z_iload_n hx 3 dX3_build_65 rfl ?_
    refine z_aload_n hx 1 dX3_build_66 rfl ?_
    refine gf_X2_frames hx wf_X3_59 (show 0 < 6 by decide) dX3_build_67 ?_
    obtain ⟨⟨⟩, σ1, h70, h⟩ := z_bind_some h
    refine z_callv hx (As := [.ref (z_ad (z_g C) 0), .int (zi x3), .int (zi (σ 0 1))]) (k := 54) (met_X3_addRecorded (z_l C) (z_g C) (z_ok_sd hx) h70) (z_lt0 (z_ok_sd hx) (by decide)) (z_kb54 (z_ok_sd hx) _) rfl rfl cv_X3_45 (z_room hR ⟨Nat.le_of_ble_eq_true rfl, Nat.le_of_ble_eq_true rfl⟩) ⟨rfl, rfl⟩ rfl rfl (Nat.le_of_ble_eq_true rfl) dX3_build_70 ?_
    cases h
    exact z_vret hx hq dX3_build_73
  · refine z_aload_n hx 0 dX3_build_24 rfl ?_
    refine z_aload_n hx 1 dX3_build_25 rfl ?_
    refine z_iload_n hx 3 dX3_build_26 rfl ?_
    refine z_aload_n hx 2 dX3_build_27 rfl ?_
    refine gf_X0_begins hx wf_X3_42 dX3_build_28 ?_
    refine z_iload hx 4 dX3_build_31 rfl ?_
    refine z_iald hx (n := 20) (z_lt0 (z_ok_sd hx) (by decide)) (z_kb49 (z_ok_sd hx) _) rfl (by decide) dX3_build_33 h (fun h => ?_)
    obtain ⟨⟨⟩, σ2, h34, h⟩ := z_bind_some h
    refine z_callv hx (As := [.ref (z_ad (z_g C) 0), .int (zi x3), .int (zi (σ 49 x4))]) (k := 54) (met_X3_addRecorded (z_l C) (z_g C) (z_ok_sd hx) h34) (z_lt0 (z_ok_sd hx) (by decide)) (z_kb54 (z_ok_sd hx) _) rfl rfl cv_X3_45 (z_room hR ⟨Nat.le_of_ble_eq_true rfl, Nat.le_of_ble_eq_true rfl⟩) ⟨rfl, rfl⟩ rfl rfl (Nat.le_of_ble_eq_true rfl) dX3_build_34 ?_
    refine z_aload_n hx 0 dX3_build_37 rfl ?_
    refine z_aload_n hx 1 dX3_build_38 rfl ?_
    refine z_aload_n hx 2 dX3_build_39 rfl ?_
    refine gf_X0_pauses hx wf_X3_49 dX3_build_40 ?_
    refine z_iload hx 4 dX3_build_43 rfl ?_
    refine z_iald hx (n := 20) (z_lt0 (z_ok_sd hx) (by decide)) (z_kb51 (z_ok_sd hx) _) rfl (by decide) dX3_build_45 h (fun h => ?_)
    obtain ⟨⟨⟩, σ3, h46, h⟩ := z_bind_some h
    refine z_callv hx (As := [.ref (z_ad (z_g C) 0), .int (zi (σ2 51 x4))]) (k := 54) (met_X3_addPause (z_l C) (z_g C) (z_ok_sd hx) h46) (z_lt0 (z_ok_sd hx) (by decide)) (z_kb54 (z_ok_sd hx) _) rfl rfl cv_X3_52 (z_room hR ⟨Nat.le_of_ble_eq_true rfl, Nat.le_of_ble_eq_true rfl⟩) ⟨rfl, rfl⟩ rfl rfl (Nat.le_of_ble_eq_true rfl) dX3_build_46 ?_
    refine z_aload_n hx 2 dX3_build_49 rfl ?_
    refine gf_X0_ends hx wf_X3_56 dX3_build_50 ?_
    refine z_iload hx 4 dX3_build_53 rfl ?_
    refine z_iald hx (n := 20) (z_lt0 (z_ok_sd hx) (by decide)) (z_kb50 (z_ok_sd hx) _) rfl (by decide) dX3_build_55 h (fun h => ?_)
    refine z_istore_n hx hn (lv' := [(3, .int (zi (σ3 50 x4))), (0, .ref (z_ad (z_g C) 54)), (1, .ref (z_ad (z_g C) 0)), (2, .ref (z_ad (z_g C) 48)), (4, .int (zi x4))]) dX3_build_56 (by decide) rfl ?_
    refine z_iinc hx hn 4 (lv' := [(4, .int (zi (x4 + 1))), (3, .int (zi (σ3 50 x4))), (0, .ref (z_ad (z_g C) 54)), (1, .ref (z_ad (z_g C) 0)), (2, .ref (z_ad (z_g C) 48))]) dX3_build_57 rfl (by decide) rfl ?_
    refine z_goto hx (tgt := 15) dX3_build_60 (by decide) ?_
    refine z_sub [2, 3, 4, 1, 0] rfl ?_
    exact hK15 σ3 (σ3 50 x4) (x4 + 1) h

theorem w_X3_build_l15 {C : zC} (hx : z_ok C cX3_build RX3 0) (hn : z_nL C = 5) (hR : z_R C = rm_X3_build) {rr : Unit × zS} (hq : z_fin C none (z_QV (z_g C) rr.2)) : ∀ (n : Nat) (σ : zS) (x3 : Int) (x4 : Int) (_ : f_X3_build_l15 n σ x3 x4 = some rr), z_W C σ 15 [(0, .ref (z_ad (z_g C) 54)), (1, .ref (z_ad (z_g C) 0)), (2, .ref (z_ad (z_g C) 48)), (3, .int (zi x3)), (4, .int (zi x4))] [] := by
  intro n
  induction n with
  | zero => intro σ x3 x4 h; cases h
  | succ n ih =>
    intro σ x3 x4 h
    exact w_X3_build_b15 hx hn hR hq ih σ x3 x4 h
theorem w_X3_build {C : zC} (hx : z_ok C cX3_build RX3 0) (hn : z_nL C = 5) (hR : z_R C = rm_X3_build) {rr : Unit × zS} (hq : z_fin C none (z_QV (z_g C) rr.2)) (σ : zS) (h : f_X3_build σ = some rr) : z_W C σ 0 [(0, .ref (z_ad (z_g C) 54)), (1, .ref (z_ad (z_g C) 0)), (2, .ref (z_ad (z_g C) 48))] [] := by
  unfold f_X3_build at h
  refine z_aload_n hx 0 dX3_build_0 rfl ?_
  refine z_iconst hx (n := 0) dX3_build_1 ?_
  refine pf_X3_count hx wf_X3_18 dX3_build_2 h (fun σ1 h => ?_)
  refine z_aload_n hx 0 dX3_build_5 rfl ?_
  refine z_aload_n hx 1 dX3_build_6 rfl ?_
  obtain ⟨⟨⟩, σ2, h7, h⟩ := z_bind_some h
  refine z_callv hx (As := [.ref (z_ad (z_g C) 0)]) (k := 54) (met_X3_gatherRoomAndNoise (z_l C) (z_g C) (z_ok_sd hx) h7) (z_lt0 (z_ok_sd hx) (by decide)) (z_kb54 (z_ok_sd hx) _) rfl rfl cv_X3_35 (z_room hR ⟨Nat.le_of_ble_eq_true rfl, Nat.le_of_ble_eq_true rfl⟩) ⟨rfl, rfl⟩ rfl rfl (Nat.le_of_ble_eq_true rfl) dX3_build_7 ?_
  refine z_iconst hx (n := 0) dX3_build_10 ?_
  refine z_istore_n hx hn (lv' := [(3, .int (zi 0)), (0, .ref (z_ad (z_g C) 54)), (1, .ref (z_ad (z_g C) 0)), (2, .ref (z_ad (z_g C) 48))]) dX3_build_11 (by decide) rfl ?_
  refine z_iconst hx (n := 0) dX3_build_12 ?_
  refine z_istore hx hn (lv' := [(4, .int (zi 0)), (3, .int (zi 0)), (0, .ref (z_ad (z_g C) 54)), (1, .ref (z_ad (z_g C) 0)), (2, .ref (z_ad (z_g C) 48))]) dX3_build_13 (by decide) rfl ?_
  refine z_sub [2, 3, 4, 1, 0] rfl ?_
  exact w_X3_build_l15 hx hn hR hq z_fuel σ2 0 0 h

theorem met_X3_build (l : Launch) (g : zG) (hg : g.1 = 0) {σ : zS} {rr : Unit × zS} (h : f_X3_build σ = some rr) : z_Met l yX3_build cX3_build 5 none rm_X3_build g [.ref (z_ad (g) 54), .ref (z_ad (g) 0), .ref (z_ad (g) 48)] σ (z_QV g rr.2) := by
  refine z_enter (own := RX3) (sd := 0) (lv0 := [(0, .ref (z_ad (g) 54)), (1, .ref (z_ad (g) 0)), (2, .ref (z_ad (g) 48))]) (by decide) rfl (Nat.le_of_ble_eq_true rfl) hg rfl (fun C hx hl hgC hR hn hq => ?_)
  subst hgC
  refine z_sub [0, 1, 2] rfl ?_
  exact w_X3_build hx hn hR hq σ h
theorem dX3_placeOfSource_0 : decode cX3_placeOfSource 0 = .ok (.iconst 0, 1) := by decide +kernel
theorem dX3_placeOfSource_1 : decode cX3_placeOfSource 1 = .ok (.istore_n 2, 1) := by decide +kernel
theorem dX3_placeOfSource_2 : decode cX3_placeOfSource 2 = .ok (.iload_n 2, 1) := by decide +kernel
theorem dX3_placeOfSource_3 : decode cX3_placeOfSource 3 = .ok (.aload_n 0, 1) := by decide +kernel
theorem dX3_placeOfSource_4 : decode cX3_placeOfSource 4 = .ok (.getfield 18, 3) := by decide +kernel
theorem dX3_placeOfSource_7 : decode cX3_placeOfSource 7 = .ok (.if_icmp .ge 21, 3) := by decide +kernel
theorem dX3_placeOfSource_10 : decode cX3_placeOfSource 10 = .ok (.aload_n 0, 1) := by decide +kernel
theorem dX3_placeOfSource_11 : decode cX3_placeOfSource 11 = .ok (.getfield 9, 3) := by decide +kernel
theorem dX3_placeOfSource_14 : decode cX3_placeOfSource 14 = .ok (.iload_n 2, 1) := by decide +kernel
theorem dX3_placeOfSource_15 : decode cX3_placeOfSource 15 = .ok (.iaload, 1) := by decide +kernel
theorem dX3_placeOfSource_16 : decode cX3_placeOfSource 16 = .ok (.iload_n 1, 1) := by decide +kernel
theorem dX3_placeOfSource_17 : decode cX3_placeOfSource 17 = .ok (.if_icmp .ne 5, 3) := by decide +kernel
theorem dX3_placeOfSource_20 : decode cX3_placeOfSource 20 = .ok (.iload_n 2, 1) := by decide +kernel
theorem dX3_placeOfSource_21 : decode cX3_placeOfSource 21 = .ok (.ireturn, 1) := by decide +kernel
theorem dX3_placeOfSource_22 : decode cX3_placeOfSource 22 = .ok (.iinc 2 1, 3) := by decide +kernel
theorem dX3_placeOfSource_25 : decode cX3_placeOfSource 25 = .ok (.goto (-23), 3) := by decide +kernel
theorem dX3_placeOfSource_28 : decode cX3_placeOfSource 28 = .ok (.bipush (-9), 2) := by decide +kernel
theorem dX3_placeOfSource_30 : decode cX3_placeOfSource 30 = .ok (.ireturn, 1) := by decide +kernel
abbrev rm_X3_placeOfSource : Room := { frames := 0, cells := 0, slots := 0, locals := 0 }
theorem w_X3_placeOfSource_b2 {C : zC} (hx : z_ok C cX3_placeOfSource RX3 0) (hn : z_nL C = 3) (hR : z_R C = rm_X3_placeOfSource) {rr : Int × zS} (hq : z_fin C (some .int) (z_QI (z_g C) rr.1 rr.2)) {K2 : zS → Int → Int → Option (Int × zS)} (hK2 : ∀ (σ : zS) (x1 : Int) (x2 : Int) , K2 σ x1 x2 = some rr → z_W C σ 2 [(0, .ref (z_ad (z_g C) 54)), (1, .int (zi x1)), (2, .int (zi x2))] []) (σ : zS) (x1 : Int) (x2 : Int) (h : f_X3_placeOfSource_b2 K2 σ x1 x2 = some rr) : z_W C σ 2 [(0, .ref (z_ad (z_g C) 54)), (1, .int (zi x1)), (2, .int (zi x2))] [] := by
  unfold f_X3_placeOfSource_b2 at h
  refine z_iload_n hx 2 dX3_placeOfSource_2 rfl ?_
  refine z_aload_n hx 0 dX3_placeOfSource_3 rfl ?_
  refine gf_X3_count hx wf_X3_18 dX3_placeOfSource_4 ?_
  refine z_icmp_ge hx (tgt := 28) dX3_placeOfSource_7 (by decide) h (fun h => h) (fun hc h => ?_) (fun hc h => ?_)
  · refine z_bipush hx (n := (-9)) dX3_placeOfSource_28 rfl ?_
    cases h
    exact z_iret hx hq dX3_placeOfSource_30
  · refine z_aload_n hx 0 dX3_placeOfSource_10 rfl ?_
    refine gf_X3_sources hx wf_X3_9 dX3_placeOfSource_11 ?_
    refine z_iload_n hx 2 dX3_placeOfSource_14 rfl ?_
    refine z_iald hx (n := 200) (z_lt0 (z_ok_sd hx) (by decide)) (z_kb55 (z_ok_sd hx) _) rfl (by decide) dX3_placeOfSource_15 h (fun h => ?_)
    refine z_iload_n hx 1 dX3_placeOfSource_16 rfl ?_
    refine z_icmp_ne hx (tgt := 22) dX3_placeOfSource_17 (by decide) h (fun h => h) (fun hc h => ?_) (fun hc h => ?_)
    · refine z_iinc hx hn 2 (lv' := [(2, .int (zi (x2 + 1))), (0, .ref (z_ad (z_g C) 54)), (1, .int (zi x1))]) dX3_placeOfSource_22 rfl (by decide) rfl ?_
      refine z_goto hx (tgt := 2) dX3_placeOfSource_25 (by decide) ?_
      refine z_sub [1, 2, 0] rfl ?_
      exact hK2 σ x1 (x2 + 1) h
    · refine z_iload_n hx 2 dX3_placeOfSource_20 rfl ?_
      cases h
      exact z_iret hx hq dX3_placeOfSource_21

theorem w_X3_placeOfSource_l2 {C : zC} (hx : z_ok C cX3_placeOfSource RX3 0) (hn : z_nL C = 3) (hR : z_R C = rm_X3_placeOfSource) {rr : Int × zS} (hq : z_fin C (some .int) (z_QI (z_g C) rr.1 rr.2)) : ∀ (n : Nat) (σ : zS) (x1 : Int) (x2 : Int) (_ : f_X3_placeOfSource_l2 n σ x1 x2 = some rr), z_W C σ 2 [(0, .ref (z_ad (z_g C) 54)), (1, .int (zi x1)), (2, .int (zi x2))] [] := by
  intro n
  induction n with
  | zero => intro σ x1 x2 h; cases h
  | succ n ih =>
    intro σ x1 x2 h
    exact w_X3_placeOfSource_b2 hx hn hR hq ih σ x1 x2 h
theorem w_X3_placeOfSource {C : zC} (hx : z_ok C cX3_placeOfSource RX3 0) (hn : z_nL C = 3) (hR : z_R C = rm_X3_placeOfSource) {rr : Int × zS} (hq : z_fin C (some .int) (z_QI (z_g C) rr.1 rr.2)) (σ : zS) (x1 : Int) (h : f_X3_placeOfSource σ x1 = some rr) : z_W C σ 0 [(0, .ref (z_ad (z_g C) 54)), (1, .int (zi x1))] [] := by
  unfold f_X3_placeOfSource at h
  refine z_iconst hx (n := 0) dX3_placeOfSource_0 ?_
  refine z_istore_n hx hn (lv' := [(2, .int (zi 0)), (0, .ref (z_ad (z_g C) 54)), (1, .int (zi x1))]) dX3_placeOfSource_1 (by decide) rfl ?_
  refine z_sub [1, 2, 0] rfl ?_
  exact w_X3_placeOfSource_l2 hx hn hR hq z_fuel σ x1 0 h

theorem met_X3_placeOfSource (l : Launch) (g : zG) (hg : g.1 = 0) {σ : zS} {x1 : Int} {rr : Int × zS} (h : f_X3_placeOfSource σ x1 = some rr) : z_Met l yX3_placeOfSource cX3_placeOfSource 3 (some .int) rm_X3_placeOfSource g [.ref (z_ad (g) 54), .int (zi x1)] σ (z_QI g rr.1 rr.2) := by
  refine z_enter (own := RX3) (sd := 0) (lv0 := [(0, .ref (z_ad (g) 54)), (1, .int (zi x1))]) (by decide) rfl (Nat.le_of_ble_eq_true rfl) hg rfl (fun C hx hl hgC hR hn hq => ?_)
  subst hgC
  refine z_sub [0, 1] rfl ?_
  exact w_X3_placeOfSource hx hn hR hq σ x1 h
theorem dX3_stepsGreaterThan_0 : decode cX3_stepsGreaterThan 0 = .ok (.iconst 0, 1) := by decide +kernel
theorem dX3_stepsGreaterThan_1 : decode cX3_stepsGreaterThan 1 = .ok (.istore_n 2, 1) := by decide +kernel
theorem dX3_stepsGreaterThan_2 : decode cX3_stepsGreaterThan 2 = .ok (.iconst 1, 1) := by decide +kernel
theorem dX3_stepsGreaterThan_3 : decode cX3_stepsGreaterThan 3 = .ok (.istore_n 3, 1) := by decide +kernel
theorem dX3_stepsGreaterThan_4 : decode cX3_stepsGreaterThan 4 = .ok (.iload_n 3, 1) := by decide +kernel
theorem dX3_stepsGreaterThan_5 : decode cX3_stepsGreaterThan 5 = .ok (.aload_n 0, 1) := by decide +kernel
theorem dX3_stepsGreaterThan_6 : decode cX3_stepsGreaterThan 6 = .ok (.getfield 18, 3) := by decide +kernel
theorem dX3_stepsGreaterThan_9 : decode cX3_stepsGreaterThan 9 = .ok (.if_icmp .ge 34, 3) := by decide +kernel
theorem dX3_stepsGreaterThan_12 : decode cX3_stepsGreaterThan 12 = .ok (.aload_n 0, 1) := by decide +kernel
theorem dX3_stepsGreaterThan_13 : decode cX3_stepsGreaterThan 13 = .ok (.getfield 15, 3) := by decide +kernel
theorem dX3_stepsGreaterThan_16 : decode cX3_stepsGreaterThan 16 = .ok (.iload_n 3, 1) := by decide +kernel
theorem dX3_stepsGreaterThan_17 : decode cX3_stepsGreaterThan 17 = .ok (.iaload, 1) := by decide +kernel
theorem dX3_stepsGreaterThan_18 : decode cX3_stepsGreaterThan 18 = .ok (.aload_n 0, 1) := by decide +kernel
theorem dX3_stepsGreaterThan_19 : decode cX3_stepsGreaterThan 19 = .ok (.getfield 15, 3) := by decide +kernel
theorem dX3_stepsGreaterThan_22 : decode cX3_stepsGreaterThan 22 = .ok (.iload_n 3, 1) := by decide +kernel
theorem dX3_stepsGreaterThan_23 : decode cX3_stepsGreaterThan 23 = .ok (.iconst 1, 1) := by decide +kernel
theorem dX3_stepsGreaterThan_24 : decode cX3_stepsGreaterThan 24 = .ok (.isub, 1) := by decide +kernel
theorem dX3_stepsGreaterThan_25 : decode cX3_stepsGreaterThan 25 = .ok (.iaload, 1) := by decide +kernel
theorem dX3_stepsGreaterThan_26 : decode cX3_stepsGreaterThan 26 = .ok (.isub, 1) := by decide +kernel
theorem dX3_stepsGreaterThan_27 : decode cX3_stepsGreaterThan 27 = .ok (.invokestatic 93, 3) := by decide +kernel
theorem dX3_stepsGreaterThan_30 : decode cX3_stepsGreaterThan 30 = .ok (.iload_n 1, 1) := by decide +kernel
theorem dX3_stepsGreaterThan_31 : decode cX3_stepsGreaterThan 31 = .ok (.if_icmp .le 6, 3) := by decide +kernel
theorem dX3_stepsGreaterThan_34 : decode cX3_stepsGreaterThan 34 = .ok (.iinc 2 1, 3) := by decide +kernel
theorem dX3_stepsGreaterThan_37 : decode cX3_stepsGreaterThan 37 = .ok (.iinc 3 1, 3) := by decide +kernel
theorem dX3_stepsGreaterThan_40 : decode cX3_stepsGreaterThan 40 = .ok (.goto (-36), 3) := by decide +kernel
theorem dX3_stepsGreaterThan_43 : decode cX3_stepsGreaterThan 43 = .ok (.iload_n 2, 1) := by decide +kernel
theorem dX3_stepsGreaterThan_44 : decode cX3_stepsGreaterThan 44 = .ok (.ireturn, 1) := by decide +kernel
abbrev rm_X3_stepsGreaterThan : Room := { frames := 1, cells := 0, slots := 0, locals := 21 }
theorem w_X3_stepsGreaterThan_b37 {C : zC} (hx : z_ok C cX3_stepsGreaterThan RX3 0) (hn : z_nL C = 4) (hR : z_R C = rm_X3_stepsGreaterThan) {rr : Int × zS} (hq : z_fin C (some .int) (z_QI (z_g C) rr.1 rr.2)) {K4 : zS → Int → Int → Int → Option (Int × zS)} (hK4 : ∀ (σ : zS) (x1 : Int) (x2 : Int) (x3 : Int) , K4 σ x1 x2 x3 = some rr → z_W C σ 4 [(0, .ref (z_ad (z_g C) 54)), (1, .int (zi x1)), (2, .int (zi x2)), (3, .int (zi x3))] []) (σ : zS) (x1 : Int) (x2 : Int) (x3 : Int) (h : f_X3_stepsGreaterThan_b37 K4 σ x1 x2 x3 = some rr) : z_W C σ 37 [(0, .ref (z_ad (z_g C) 54)), (1, .int (zi x1)), (2, .int (zi x2)), (3, .int (zi x3))] [] := by
  unfold f_X3_stepsGreaterThan_b37 at h
  refine z_iinc hx hn 3 (lv' := [(3, .int (zi (x3 + 1))), (0, .ref (z_ad (z_g C) 54)), (1, .int (zi x1)), (2, .int (zi x2))]) dX3_stepsGreaterThan_37 rfl (by decide) rfl ?_
  refine z_goto hx (tgt := 4) dX3_stepsGreaterThan_40 (by decide) ?_
  refine z_sub [1, 2, 3, 0] rfl ?_
  exact hK4 σ x1 x2 (x3 + 1) h

theorem w_X3_stepsGreaterThan_b4 {C : zC} (hx : z_ok C cX3_stepsGreaterThan RX3 0) (hn : z_nL C = 4) (hR : z_R C = rm_X3_stepsGreaterThan) {rr : Int × zS} (hq : z_fin C (some .int) (z_QI (z_g C) rr.1 rr.2)) {K4 : zS → Int → Int → Int → Option (Int × zS)} (hK4 : ∀ (σ : zS) (x1 : Int) (x2 : Int) (x3 : Int) , K4 σ x1 x2 x3 = some rr → z_W C σ 4 [(0, .ref (z_ad (z_g C) 54)), (1, .int (zi x1)), (2, .int (zi x2)), (3, .int (zi x3))] []) (σ : zS) (x1 : Int) (x2 : Int) (x3 : Int) (h : f_X3_stepsGreaterThan_b4 K4 σ x1 x2 x3 = some rr) : z_W C σ 4 [(0, .ref (z_ad (z_g C) 54)), (1, .int (zi x1)), (2, .int (zi x2)), (3, .int (zi x3))] [] := by
  unfold f_X3_stepsGreaterThan_b4 at h
  refine z_iload_n hx 3 dX3_stepsGreaterThan_4 rfl ?_
  refine z_aload_n hx 0 dX3_stepsGreaterThan_5 rfl ?_
  refine gf_X3_count hx wf_X3_18 dX3_stepsGreaterThan_6 ?_
  refine z_icmp_ge hx (tgt := 43) dX3_stepsGreaterThan_9 (by decide) h (fun h => h) (fun hc h => ?_) (fun hc h => ?_)
  · refine z_iload_n hx 2 dX3_stepsGreaterThan_43 rfl ?_
    cases h
    exact z_iret hx hq dX3_stepsGreaterThan_44
  · refine z_aload_n hx 0 dX3_stepsGreaterThan_12 rfl ?_
    refine gf_X3_levels hx wf_X3_15 dX3_stepsGreaterThan_13 ?_
    refine z_iload_n hx 3 dX3_stepsGreaterThan_16 rfl ?_
    refine z_iald hx (n := 200) (z_lt0 (z_ok_sd hx) (by decide)) (z_kb56 (z_ok_sd hx) _) rfl (by decide) dX3_stepsGreaterThan_17 h (fun h => ?_)
    refine z_aload_n hx 0 dX3_stepsGreaterThan_18 rfl ?_
    refine gf_X3_levels hx wf_X3_15 dX3_stepsGreaterThan_19 ?_
    refine z_iload_n hx 3 dX3_stepsGreaterThan_22 rfl ?_
    refine z_iconst hx (n := 1) dX3_stepsGreaterThan_23 ?_
    refine z_isub hx dX3_stepsGreaterThan_24 ?_
    refine z_iald hx (n := 200) (z_lt0 (z_ok_sd hx) (by decide)) (z_kb56 (z_ok_sd hx) _) rfl (by decide) dX3_stepsGreaterThan_25 h (fun h => ?_)
    refine z_isub hx dX3_stepsGreaterThan_26 ?_
    refine z_abs hx wm_X3_93 wst_J9_abs wi_J9 wc_J9_abs (z_room hR ⟨Nat.le_of_ble_eq_true rfl, Nat.le_of_ble_eq_true rfl⟩) (Nat.le_of_ble_eq_true rfl) dX3_stepsGreaterThan_27 h (fun h => ?_)
    refine z_iload_n hx 1 dX3_stepsGreaterThan_30 rfl ?_
    refine z_icmp_le hx (tgt := 37) dX3_stepsGreaterThan_31 (by decide) h (fun h => h) (fun hc h => ?_) (fun hc h => ?_)
    · refine z_sub [0, 1, 2, 3] rfl ?_
      exact w_X3_stepsGreaterThan_b37 hx hn hR hq hK4 σ x1 x2 x3 h
    · refine z_iinc hx hn 2 (lv' := [(2, .int (zi (x2 + 1))), (0, .ref (z_ad (z_g C) 54)), (1, .int (zi x1)), (3, .int (zi x3))]) dX3_stepsGreaterThan_34 rfl (by decide) rfl ?_
      refine z_sub [1, 2, 0, 3] rfl ?_
      exact w_X3_stepsGreaterThan_b37 hx hn hR hq hK4 σ x1 (x2 + 1) x3 h

theorem w_X3_stepsGreaterThan_l4 {C : zC} (hx : z_ok C cX3_stepsGreaterThan RX3 0) (hn : z_nL C = 4) (hR : z_R C = rm_X3_stepsGreaterThan) {rr : Int × zS} (hq : z_fin C (some .int) (z_QI (z_g C) rr.1 rr.2)) : ∀ (n : Nat) (σ : zS) (x1 : Int) (x2 : Int) (x3 : Int) (_ : f_X3_stepsGreaterThan_l4 n σ x1 x2 x3 = some rr), z_W C σ 4 [(0, .ref (z_ad (z_g C) 54)), (1, .int (zi x1)), (2, .int (zi x2)), (3, .int (zi x3))] [] := by
  intro n
  induction n with
  | zero => intro σ x1 x2 x3 h; cases h
  | succ n ih =>
    intro σ x1 x2 x3 h
    exact w_X3_stepsGreaterThan_b4 hx hn hR hq ih σ x1 x2 x3 h
theorem w_X3_stepsGreaterThan {C : zC} (hx : z_ok C cX3_stepsGreaterThan RX3 0) (hn : z_nL C = 4) (hR : z_R C = rm_X3_stepsGreaterThan) {rr : Int × zS} (hq : z_fin C (some .int) (z_QI (z_g C) rr.1 rr.2)) (σ : zS) (x1 : Int) (h : f_X3_stepsGreaterThan σ x1 = some rr) : z_W C σ 0 [(0, .ref (z_ad (z_g C) 54)), (1, .int (zi x1))] [] := by
  unfold f_X3_stepsGreaterThan at h
  refine z_iconst hx (n := 0) dX3_stepsGreaterThan_0 ?_
  refine z_istore_n hx hn (lv' := [(2, .int (zi 0)), (0, .ref (z_ad (z_g C) 54)), (1, .int (zi x1))]) dX3_stepsGreaterThan_1 (by decide) rfl ?_
  refine z_iconst hx (n := 1) dX3_stepsGreaterThan_2 ?_
  refine z_istore_n hx hn (lv' := [(3, .int (zi 1)), (2, .int (zi 0)), (0, .ref (z_ad (z_g C) 54)), (1, .int (zi x1))]) dX3_stepsGreaterThan_3 (by decide) rfl ?_
  refine z_sub [2, 3, 1, 0] rfl ?_
  exact w_X3_stepsGreaterThan_l4 hx hn hR hq z_fuel σ x1 0 1 h

theorem met_X3_stepsGreaterThan (l : Launch) (g : zG) (hg : g.1 = 0) {σ : zS} {x1 : Int} {rr : Int × zS} (h : f_X3_stepsGreaterThan σ x1 = some rr) : z_Met l yX3_stepsGreaterThan cX3_stepsGreaterThan 4 (some .int) rm_X3_stepsGreaterThan g [.ref (z_ad (g) 54), .int (zi x1)] σ (z_QI g rr.1 rr.2) := by
  refine z_enter (own := RX3) (sd := 0) (lv0 := [(0, .ref (z_ad (g) 54)), (1, .int (zi x1))]) (by decide) rfl (Nat.le_of_ble_eq_true rfl) hg rfl (fun C hx hl hgC hR hn hq => ?_)
  subst hgC
  refine z_sub [0, 1] rfl ?_
  exact w_X3_stepsGreaterThan hx hn hR hq σ x1 h
theorem dX3_sumOfLevels_0 : decode cX3_sumOfLevels 0 = .ok (.iconst 0, 1) := by decide +kernel
theorem dX3_sumOfLevels_1 : decode cX3_sumOfLevels 1 = .ok (.istore_n 1, 1) := by decide +kernel
theorem dX3_sumOfLevels_2 : decode cX3_sumOfLevels 2 = .ok (.iconst 0, 1) := by decide +kernel
theorem dX3_sumOfLevels_3 : decode cX3_sumOfLevels 3 = .ok (.istore_n 2, 1) := by decide +kernel
theorem dX3_sumOfLevels_4 : decode cX3_sumOfLevels 4 = .ok (.iload_n 2, 1) := by decide +kernel
theorem dX3_sumOfLevels_5 : decode cX3_sumOfLevels 5 = .ok (.aload_n 0, 1) := by decide +kernel
theorem dX3_sumOfLevels_6 : decode cX3_sumOfLevels 6 = .ok (.getfield 18, 3) := by decide +kernel
theorem dX3_sumOfLevels_9 : decode cX3_sumOfLevels 9 = .ok (.if_icmp .ge 18, 3) := by decide +kernel
theorem dX3_sumOfLevels_12 : decode cX3_sumOfLevels 12 = .ok (.iload_n 1, 1) := by decide +kernel
theorem dX3_sumOfLevels_13 : decode cX3_sumOfLevels 13 = .ok (.aload_n 0, 1) := by decide +kernel
theorem dX3_sumOfLevels_14 : decode cX3_sumOfLevels 14 = .ok (.getfield 15, 3) := by decide +kernel
theorem dX3_sumOfLevels_17 : decode cX3_sumOfLevels 17 = .ok (.iload_n 2, 1) := by decide +kernel
theorem dX3_sumOfLevels_18 : decode cX3_sumOfLevels 18 = .ok (.iaload, 1) := by decide +kernel
theorem dX3_sumOfLevels_19 : decode cX3_sumOfLevels 19 = .ok (.iadd, 1) := by decide +kernel
theorem dX3_sumOfLevels_20 : decode cX3_sumOfLevels 20 = .ok (.istore_n 1, 1) := by decide +kernel
theorem dX3_sumOfLevels_21 : decode cX3_sumOfLevels 21 = .ok (.iinc 2 1, 3) := by decide +kernel
theorem dX3_sumOfLevels_24 : decode cX3_sumOfLevels 24 = .ok (.goto (-20), 3) := by decide +kernel
theorem dX3_sumOfLevels_27 : decode cX3_sumOfLevels 27 = .ok (.iload_n 1, 1) := by decide +kernel
theorem dX3_sumOfLevels_28 : decode cX3_sumOfLevels 28 = .ok (.ireturn, 1) := by decide +kernel
abbrev rm_X3_sumOfLevels : Room := { frames := 0, cells := 0, slots := 0, locals := 0 }
theorem w_X3_sumOfLevels_b4 {C : zC} (hx : z_ok C cX3_sumOfLevels RX3 0) (hn : z_nL C = 3) (hR : z_R C = rm_X3_sumOfLevels) {rr : Int × zS} (hq : z_fin C (some .int) (z_QI (z_g C) rr.1 rr.2)) {K4 : zS → Int → Int → Option (Int × zS)} (hK4 : ∀ (σ : zS) (x1 : Int) (x2 : Int) , K4 σ x1 x2 = some rr → z_W C σ 4 [(0, .ref (z_ad (z_g C) 54)), (1, .int (zi x1)), (2, .int (zi x2))] []) (σ : zS) (x1 : Int) (x2 : Int) (h : f_X3_sumOfLevels_b4 K4 σ x1 x2 = some rr) : z_W C σ 4 [(0, .ref (z_ad (z_g C) 54)), (1, .int (zi x1)), (2, .int (zi x2))] [] := by
  unfold f_X3_sumOfLevels_b4 at h
  refine z_iload_n hx 2 dX3_sumOfLevels_4 rfl ?_
  refine z_aload_n hx 0 dX3_sumOfLevels_5 rfl ?_
  refine gf_X3_count hx wf_X3_18 dX3_sumOfLevels_6 ?_
  refine z_icmp_ge hx (tgt := 27) dX3_sumOfLevels_9 (by decide) h (fun h => h) (fun hc h => ?_) (fun hc h => ?_)
  · refine z_iload_n hx 1 dX3_sumOfLevels_27 rfl ?_
    cases h
    exact z_iret hx hq dX3_sumOfLevels_28
  · refine z_iload_n hx 1 dX3_sumOfLevels_12 rfl ?_
    refine z_aload_n hx 0 dX3_sumOfLevels_13 rfl ?_
    refine gf_X3_levels hx wf_X3_15 dX3_sumOfLevels_14 ?_
    refine z_iload_n hx 2 dX3_sumOfLevels_17 rfl ?_
    refine z_iald hx (n := 200) (z_lt0 (z_ok_sd hx) (by decide)) (z_kb56 (z_ok_sd hx) _) rfl (by decide) dX3_sumOfLevels_18 h (fun h => ?_)
    refine z_iadd hx dX3_sumOfLevels_19 ?_
    refine z_istore_n hx hn (lv' := [(1, .int (zi (x1 + (σ 56 x2)))), (0, .ref (z_ad (z_g C) 54)), (2, .int (zi x2))]) dX3_sumOfLevels_20 (by decide) rfl ?_
    refine z_iinc hx hn 2 (lv' := [(2, .int (zi (x2 + 1))), (1, .int (zi (x1 + (σ 56 x2)))), (0, .ref (z_ad (z_g C) 54))]) dX3_sumOfLevels_21 rfl (by decide) rfl ?_
    refine z_goto hx (tgt := 4) dX3_sumOfLevels_24 (by decide) ?_
    refine z_sub [2, 1, 0] rfl ?_
    exact hK4 σ (x1 + (σ 56 x2)) (x2 + 1) h

theorem w_X3_sumOfLevels_l4 {C : zC} (hx : z_ok C cX3_sumOfLevels RX3 0) (hn : z_nL C = 3) (hR : z_R C = rm_X3_sumOfLevels) {rr : Int × zS} (hq : z_fin C (some .int) (z_QI (z_g C) rr.1 rr.2)) : ∀ (n : Nat) (σ : zS) (x1 : Int) (x2 : Int) (_ : f_X3_sumOfLevels_l4 n σ x1 x2 = some rr), z_W C σ 4 [(0, .ref (z_ad (z_g C) 54)), (1, .int (zi x1)), (2, .int (zi x2))] [] := by
  intro n
  induction n with
  | zero => intro σ x1 x2 h; cases h
  | succ n ih =>
    intro σ x1 x2 h
    exact w_X3_sumOfLevels_b4 hx hn hR hq ih σ x1 x2 h
theorem w_X3_sumOfLevels {C : zC} (hx : z_ok C cX3_sumOfLevels RX3 0) (hn : z_nL C = 3) (hR : z_R C = rm_X3_sumOfLevels) {rr : Int × zS} (hq : z_fin C (some .int) (z_QI (z_g C) rr.1 rr.2)) (σ : zS) (h : f_X3_sumOfLevels σ = some rr) : z_W C σ 0 [(0, .ref (z_ad (z_g C) 54))] [] := by
  unfold f_X3_sumOfLevels at h
  refine z_iconst hx (n := 0) dX3_sumOfLevels_0 ?_
  refine z_istore_n hx hn (lv' := [(1, .int (zi 0)), (0, .ref (z_ad (z_g C) 54))]) dX3_sumOfLevels_1 (by decide) rfl ?_
  refine z_iconst hx (n := 0) dX3_sumOfLevels_2 ?_
  refine z_istore_n hx hn (lv' := [(2, .int (zi 0)), (1, .int (zi 0)), (0, .ref (z_ad (z_g C) 54))]) dX3_sumOfLevels_3 (by decide) rfl ?_
  refine z_sub [2, 1, 0] rfl ?_
  exact w_X3_sumOfLevels_l4 hx hn hR hq z_fuel σ 0 0 h

theorem met_X3_sumOfLevels (l : Launch) (g : zG) (hg : g.1 = 0) {σ : zS} {rr : Int × zS} (h : f_X3_sumOfLevels σ = some rr) : z_Met l yX3_sumOfLevels cX3_sumOfLevels 3 (some .int) rm_X3_sumOfLevels g [.ref (z_ad (g) 54)] σ (z_QI g rr.1 rr.2) := by
  refine z_enter (own := RX3) (sd := 0) (lv0 := [(0, .ref (z_ad (g) 54))]) (by decide) rfl (Nat.le_of_ble_eq_true rfl) hg rfl (fun C hx hl hgC hR hn hq => ?_)
  subst hgC
  refine z_sub [0] rfl ?_
  exact w_X3_sumOfLevels hx hn hR hq σ h
theorem dX3_longestStretchUpTo_0 : decode cX3_longestStretchUpTo 0 = .ok (.iconst 0, 1) := by decide +kernel
theorem dX3_longestStretchUpTo_1 : decode cX3_longestStretchUpTo 1 = .ok (.istore_n 2, 1) := by decide +kernel
theorem dX3_longestStretchUpTo_2 : decode cX3_longestStretchUpTo 2 = .ok (.iconst 0, 1) := by decide +kernel
theorem dX3_longestStretchUpTo_3 : decode cX3_longestStretchUpTo 3 = .ok (.istore_n 3, 1) := by decide +kernel
theorem dX3_longestStretchUpTo_4 : decode cX3_longestStretchUpTo 4 = .ok (.iconst 0, 1) := by decide +kernel
theorem dX3_longestStretchUpTo_5 : decode cX3_longestStretchUpTo 5 = .ok (.istore 4, 2) := by decide +kernel
theorem dX3_longestStretchUpTo_7 : decode cX3_longestStretchUpTo 7 = .ok (.iload 4, 2) := by decide +kernel
theorem dX3_longestStretchUpTo_9 : decode cX3_longestStretchUpTo 9 = .ok (.aload_n 0, 1) := by decide +kernel
theorem dX3_longestStretchUpTo_10 : decode cX3_longestStretchUpTo 10 = .ok (.getfield 18, 3) := by decide +kernel
theorem dX3_longestStretchUpTo_13 : decode cX3_longestStretchUpTo 13 = .ok (.if_icmp .ge 34, 3) := by decide +kernel
theorem dX3_longestStretchUpTo_16 : decode cX3_longestStretchUpTo 16 = .ok (.aload_n 0, 1) := by decide +kernel
theorem dX3_longestStretchUpTo_17 : decode cX3_longestStretchUpTo 17 = .ok (.getfield 15, 3) := by decide +kernel
theorem dX3_longestStretchUpTo_20 : decode cX3_longestStretchUpTo 20 = .ok (.iload 4, 2) := by decide +kernel
theorem dX3_longestStretchUpTo_22 : decode cX3_longestStretchUpTo 22 = .ok (.iaload, 1) := by decide +kernel
theorem dX3_longestStretchUpTo_23 : decode cX3_longestStretchUpTo 23 = .ok (.iload_n 1, 1) := by decide +kernel
theorem dX3_longestStretchUpTo_24 : decode cX3_longestStretchUpTo 24 = .ok (.if_icmp .gt 9, 3) := by decide +kernel
theorem dX3_longestStretchUpTo_27 : decode cX3_longestStretchUpTo 27 = .ok (.iload_n 3, 1) := by decide +kernel
theorem dX3_longestStretchUpTo_28 : decode cX3_longestStretchUpTo 28 = .ok (.iconst 1, 1) := by decide +kernel
theorem dX3_longestStretchUpTo_29 : decode cX3_longestStretchUpTo 29 = .ok (.iadd, 1) := by decide +kernel
theorem dX3_longestStretchUpTo_30 : decode cX3_longestStretchUpTo 30 = .ok (.goto 4, 3) := by decide +kernel
theorem dX3_longestStretchUpTo_33 : decode cX3_longestStretchUpTo 33 = .ok (.iconst 0, 1) := by decide +kernel
theorem dX3_longestStretchUpTo_34 : decode cX3_longestStretchUpTo 34 = .ok (.istore_n 3, 1) := by decide +kernel
theorem dX3_longestStretchUpTo_35 : decode cX3_longestStretchUpTo 35 = .ok (.iload_n 2, 1) := by decide +kernel
theorem dX3_longestStretchUpTo_36 : decode cX3_longestStretchUpTo 36 = .ok (.iload_n 3, 1) := by decide +kernel
theorem dX3_longestStretchUpTo_37 : decode cX3_longestStretchUpTo 37 = .ok (.invokestatic 98, 3) := by decide +kernel
theorem dX3_longestStretchUpTo_40 : decode cX3_longestStretchUpTo 40 = .ok (.istore_n 2, 1) := by decide +kernel
theorem dX3_longestStretchUpTo_41 : decode cX3_longestStretchUpTo 41 = .ok (.iinc 4 1, 3) := by decide +kernel
theorem dX3_longestStretchUpTo_44 : decode cX3_longestStretchUpTo 44 = .ok (.goto (-37), 3) := by decide +kernel
theorem dX3_longestStretchUpTo_47 : decode cX3_longestStretchUpTo 47 = .ok (.iload_n 2, 1) := by decide +kernel
theorem dX3_longestStretchUpTo_48 : decode cX3_longestStretchUpTo 48 = .ok (.ireturn, 1) := by decide +kernel
abbrev rm_X3_longestStretchUpTo : Room := { frames := 1, cells := 0, slots := 0, locals := 21 }
theorem w_X3_longestStretchUpTo_b34 {C : zC} (hx : z_ok C cX3_longestStretchUpTo RX3 0) (hn : z_nL C = 5) (hR : z_R C = rm_X3_longestStretchUpTo) {rr : Int × zS} (hq : z_fin C (some .int) (z_QI (z_g C) rr.1 rr.2)) {K7 : zS → Int → Int → Int → Int → Option (Int × zS)} (hK7 : ∀ (σ : zS) (x1 : Int) (x2 : Int) (x3 : Int) (x4 : Int) , K7 σ x1 x2 x3 x4 = some rr → z_W C σ 7 [(0, .ref (z_ad (z_g C) 54)), (1, .int (zi x1)), (2, .int (zi x2)), (3, .int (zi x3)), (4, .int (zi x4))] []) (σ : zS) (x1 : Int) (x2 : Int) (x4 : Int) (s0 : Int) (h : f_X3_longestStretchUpTo_b34 K7 σ x1 x2 x4 s0 = some rr) : z_W C σ 34 [(0, .ref (z_ad (z_g C) 54)), (1, .int (zi x1)), (2, .int (zi x2)), (4, .int (zi x4))] [.int (zi s0)] := by
  unfold f_X3_longestStretchUpTo_b34 at h
  refine z_istore_n hx hn (lv' := [(3, .int (zi s0)), (0, .ref (z_ad (z_g C) 54)), (1, .int (zi x1)), (2, .int (zi x2)), (4, .int (zi x4))]) dX3_longestStretchUpTo_34 (by decide) rfl ?_
  refine z_iload_n hx 3 dX3_longestStretchUpTo_35 rfl ?_
  refine z_iload_n hx 0 dX3_longestStretchUpTo_36 rfl ?_
  refine z_max hx wm_X3_98 wst_J9_max wi_J9 wc_J9_max (z_room hR ⟨Nat.le_of_ble_eq_true rfl, Nat.le_of_ble_eq_true rfl⟩) (Nat.le_of_ble_eq_true rfl) dX3_longestStretchUpTo_37 h (fun h => ?_)
  refine z_istore_n hx hn (lv' := [(2, .int (zi (if x2 < s0 then s0 else x2))), (3, .int (zi s0)), (0, .ref (z_ad (z_g C) 54)), (1, .int (zi x1)), (4, .int (zi x4))]) dX3_longestStretchUpTo_40 (by decide) rfl ?_
  refine z_iinc hx hn 4 (lv' := [(4, .int (zi (x4 + 1))), (2, .int (zi (if x2 < s0 then s0 else x2))), (3, .int (zi s0)), (0, .ref (z_ad (z_g C) 54)), (1, .int (zi x1))]) dX3_longestStretchUpTo_41 rfl (by decide) rfl ?_
  refine z_goto hx (tgt := 7) dX3_longestStretchUpTo_44 (by decide) ?_
  refine z_sub [3, 4, 1, 2, 0] rfl ?_
  exact hK7 σ x1 (if x2 < s0 then s0 else x2) s0 (x4 + 1) h

theorem w_X3_longestStretchUpTo_b7 {C : zC} (hx : z_ok C cX3_longestStretchUpTo RX3 0) (hn : z_nL C = 5) (hR : z_R C = rm_X3_longestStretchUpTo) {rr : Int × zS} (hq : z_fin C (some .int) (z_QI (z_g C) rr.1 rr.2)) {K7 : zS → Int → Int → Int → Int → Option (Int × zS)} (hK7 : ∀ (σ : zS) (x1 : Int) (x2 : Int) (x3 : Int) (x4 : Int) , K7 σ x1 x2 x3 x4 = some rr → z_W C σ 7 [(0, .ref (z_ad (z_g C) 54)), (1, .int (zi x1)), (2, .int (zi x2)), (3, .int (zi x3)), (4, .int (zi x4))] []) (σ : zS) (x1 : Int) (x2 : Int) (x3 : Int) (x4 : Int) (h : f_X3_longestStretchUpTo_b7 K7 σ x1 x2 x3 x4 = some rr) : z_W C σ 7 [(0, .ref (z_ad (z_g C) 54)), (1, .int (zi x1)), (2, .int (zi x2)), (3, .int (zi x3)), (4, .int (zi x4))] [] := by
  unfold f_X3_longestStretchUpTo_b7 at h
  refine z_iload hx 4 dX3_longestStretchUpTo_7 rfl ?_
  refine z_aload_n hx 0 dX3_longestStretchUpTo_9 rfl ?_
  refine gf_X3_count hx wf_X3_18 dX3_longestStretchUpTo_10 ?_
  refine z_icmp_ge hx (tgt := 47) dX3_longestStretchUpTo_13 (by decide) h (fun h => h) (fun hc h => ?_) (fun hc h => ?_)
  · refine z_iload_n hx 2 dX3_longestStretchUpTo_47 rfl ?_
    cases h
    exact z_iret hx hq dX3_longestStretchUpTo_48
  · refine z_aload_n hx 0 dX3_longestStretchUpTo_16 rfl ?_
    refine gf_X3_levels hx wf_X3_15 dX3_longestStretchUpTo_17 ?_
    refine z_iload hx 4 dX3_longestStretchUpTo_20 rfl ?_
    refine z_iald hx (n := 200) (z_lt0 (z_ok_sd hx) (by decide)) (z_kb56 (z_ok_sd hx) _) rfl (by decide) dX3_longestStretchUpTo_22 h (fun h => ?_)
    refine z_iload_n hx 1 dX3_longestStretchUpTo_23 rfl ?_
    refine z_icmp_gt hx (tgt := 33) dX3_longestStretchUpTo_24 (by decide) h (fun h => h) (fun hc h => ?_) (fun hc h => ?_)
    · refine z_iconst hx (n := 0) dX3_longestStretchUpTo_33 ?_
      refine z_sub [0, 1, 2, 4] rfl ?_
      exact w_X3_longestStretchUpTo_b34 hx hn hR hq hK7 σ x1 x2 x4 0 h
    · refine z_iload_n hx 3 dX3_longestStretchUpTo_27 rfl ?_
      refine z_iconst hx (n := 1) dX3_longestStretchUpTo_28 ?_
      refine z_iadd hx dX3_longestStretchUpTo_29 ?_
      refine z_goto hx (tgt := 34) dX3_longestStretchUpTo_30 (by decide) ?_
      refine z_sub [0, 1, 2, 4] rfl ?_
      exact w_X3_longestStretchUpTo_b34 hx hn hR hq hK7 σ x1 x2 x4 (x3 + 1) h

theorem w_X3_longestStretchUpTo_l7 {C : zC} (hx : z_ok C cX3_longestStretchUpTo RX3 0) (hn : z_nL C = 5) (hR : z_R C = rm_X3_longestStretchUpTo) {rr : Int × zS} (hq : z_fin C (some .int) (z_QI (z_g C) rr.1 rr.2)) : ∀ (n : Nat) (σ : zS) (x1 : Int) (x2 : Int) (x3 : Int) (x4 : Int) (_ : f_X3_longestStretchUpTo_l7 n σ x1 x2 x3 x4 = some rr), z_W C σ 7 [(0, .ref (z_ad (z_g C) 54)), (1, .int (zi x1)), (2, .int (zi x2)), (3, .int (zi x3)), (4, .int (zi x4))] [] := by
  intro n
  induction n with
  | zero => intro σ x1 x2 x3 x4 h; cases h
  | succ n ih =>
    intro σ x1 x2 x3 x4 h
    exact w_X3_longestStretchUpTo_b7 hx hn hR hq ih σ x1 x2 x3 x4 h
theorem w_X3_longestStretchUpTo {C : zC} (hx : z_ok C cX3_longestStretchUpTo RX3 0) (hn : z_nL C = 5) (hR : z_R C = rm_X3_longestStretchUpTo) {rr : Int × zS} (hq : z_fin C (some .int) (z_QI (z_g C) rr.1 rr.2)) (σ : zS) (x1 : Int) (h : f_X3_longestStretchUpTo σ x1 = some rr) : z_W C σ 0 [(0, .ref (z_ad (z_g C) 54)), (1, .int (zi x1))] [] := by
  unfold f_X3_longestStretchUpTo at h
  refine z_iconst hx (n := 0) dX3_longestStretchUpTo_0 ?_
  refine z_istore_n hx hn (lv' := [(2, .int (zi 0)), (0, .ref (z_ad (z_g C) 54)), (1, .int (zi x1))]) dX3_longestStretchUpTo_1 (by decide) rfl ?_
  refine z_iconst hx (n := 0) dX3_longestStretchUpTo_2 ?_
  refine z_istore_n hx hn (lv' := [(3, .int (zi 0)), (2, .int (zi 0)), (0, .ref (z_ad (z_g C) 54)), (1, .int (zi x1))]) dX3_longestStretchUpTo_3 (by decide) rfl ?_
  refine z_iconst hx (n := 0) dX3_longestStretchUpTo_4 ?_
  refine z_istore hx hn (lv' := [(4, .int (zi 0)), (3, .int (zi 0)), (2, .int (zi 0)), (0, .ref (z_ad (z_g C) 54)), (1, .int (zi x1))]) dX3_longestStretchUpTo_5 (by decide) rfl ?_
  refine z_sub [3, 4, 2, 1, 0] rfl ?_
  exact w_X3_longestStretchUpTo_l7 hx hn hR hq z_fuel σ x1 0 0 0 h

theorem met_X3_longestStretchUpTo (l : Launch) (g : zG) (hg : g.1 = 0) {σ : zS} {x1 : Int} {rr : Int × zS} (h : f_X3_longestStretchUpTo σ x1 = some rr) : z_Met l yX3_longestStretchUpTo cX3_longestStretchUpTo 5 (some .int) rm_X3_longestStretchUpTo g [.ref (z_ad (g) 54), .int (zi x1)] σ (z_QI g rr.1 rr.2) := by
  refine z_enter (own := RX3) (sd := 0) (lv0 := [(0, .ref (z_ad (g) 54)), (1, .int (zi x1))]) (by decide) rfl (Nat.le_of_ble_eq_true rfl) hg rfl (fun C hx hl hgC hR hn hq => ?_)
  subst hgC
  refine z_sub [0, 1] rfl ?_
  exact w_X3_longestStretchUpTo hx hn hR hq σ x1 h
