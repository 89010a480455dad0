/-! the law's walks, by program: asks -/
abbrev rm_L_asks : Room := { frames := 7, cells := 0, slots := 0, locals := 169 }
theorem w_L_asks_b164 {C : zC} {E : yE} (hx : y_ok C cL_asks RL E) (hn : z_nL C = 9) (hR : z_R C = rm_L_asks) {rr : Int × zS} (hq : y_fin C (some .boolean) (z_QI (z_g C) rr.1 rr.2)) (σ : zS) (s0 : Int) (h : f_L_asks_b164 σ s0 = some rr) : y_W C σ 164 [] [.int (zi s0)] := by
  intro d hd
  unfold f_L_asks_b164 at h
  obtain ⟨hz, h⟩ := z_gd h
  cases h
  exact y_zret hx hd hz hq dL_asks_164

theorem w_L_asks_b163 {C : zC} {E : yE} (hx : y_ok C cL_asks RL E) (hn : z_nL C = 9) (hR : z_R C = rm_L_asks) {rr : Int × zS} (hq : y_fin C (some .boolean) (z_QI (z_g C) rr.1 rr.2)) (σ : zS) (h : f_L_asks_b163 σ = some rr) : y_W C σ 163 [] [] := by
  intro d hd
  unfold f_L_asks_b163 at h
  refine z_iconst (hx.1 d) (n := 0) dL_asks_163 ?_
  refine z_sub [] rfl ?_
  exact w_L_asks_b164 hx hn hR hq σ 0 h d hd

theorem w_L_asks_b150 {C : zC} {E : yE} (hx : y_ok C cL_asks RL E) (hn : z_nL C = 9) (hR : z_R C = rm_L_asks) {rr : Int × zS} (hq : y_fin C (some .boolean) (z_QI (z_g C) rr.1 rr.2)) (σ : zS) (y2 : Int) (h : f_L_asks_b150 σ y2 = some rr) : y_W C σ 150 [(0, .ref (z_ad (z_g C) 62)), (2, .long (zl y2))] [] := by
  intro d hd
  unfold f_L_asks_b150 at h
  refine z_aload_n (hx.1 d) 0 dL_asks_150 rfl ?_
  obtain ⟨r2, σ1, h151, h⟩ := z_bind_some h
  refine z_calll (hx.1 d) (As := []) (k := 62) (met_X5_fingerprint (z_l C) (z_g C) (y_sd hx) h151) (z_lt0 (z_ok_sd (hx.1 d)) (by decide)) (z_kb62 (z_ok_sd (hx.1 d)) _) rfl rfl cv_L_9 (z_room hR ⟨Nat.le_of_ble_eq_true rfl, Nat.le_of_ble_eq_true rfl⟩) ⟨rfl, rfl⟩ rfl rfl (Nat.le_of_ble_eq_true rfl) dL_asks_151 ?_
  refine z_lload_n (hx.1 d) 1 dL_asks_154 rfl ?_
  refine y_lcmp (hx.1 d) dL_asks_155 h (fun h => ?_)
  refine z_if_ne (hx.1 d) (tgt := 163) dL_asks_156 (by decide) h (fun h => h) (fun hc h => ?_) (fun hc h => ?_)
  · refine z_sub [] rfl ?_
    exact w_L_asks_b163 hx hn hR hq σ1 h d hd
  · refine z_iconst (hx.1 d) (n := 1) dL_asks_159 ?_
    refine z_goto (hx.1 d) (tgt := 164) dL_asks_160 (by decide) ?_
    refine z_sub [] rfl ?_
    exact w_L_asks_b164 hx hn hR hq σ1 1 h d hd

theorem w_L_asks_b108 {C : zC} {E : yE} (hx : y_ok C cL_asks RL E) (hn : z_nL C = 9) (hR : z_R C = rm_L_asks) {rr : Int × zS} (hq : y_fin C (some .boolean) (z_QI (z_g C) rr.1 rr.2)) (σ : zS) (h : f_L_asks_b108 σ = some rr) : y_W C σ 108 [] [] := by
  intro d hd
  unfold f_L_asks_b108 at h
  refine z_iconst (hx.1 d) (n := 0) dL_asks_108 ?_
  cases h
  exact y_zret hx hd (by decide) hq dL_asks_109

theorem w_L_asks_b70 {C : zC} {E : yE} (hx : y_ok C cL_asks RL E) (hn : z_nL C = 9) (hR : z_R C = rm_L_asks) {rr : Int × zS} (hq : y_fin C (some .boolean) (z_QI (z_g C) rr.1 rr.2)) (σ : zS) (x1 : Int) (y2 : Int) (x4 : Int) (x5 : Int) (x6 : Int) (x7 : Int) (h : f_L_asks_b70 σ x1 y2 x4 x5 x6 x7 = some rr) : y_W C σ 70 [(0, .ref (z_ad (z_g C) 62)), (1, .int (zi x1)), (2, .long (zl y2)), (4, .int (zi x4)), (5, .int (zi x5)), (6, .int (zi x6)), (7, .int (zi x7))] [] := by
  intro d hd
  unfold f_L_asks_b70 at h
  refine z_aload_n (hx.1 d) 0 dL_asks_70 rfl ?_
  obtain ⟨r2, σ1, h71, h⟩ := z_bind_some h
  refine z_calll (hx.1 d) (As := []) (k := 62) (met_X5_fingerprint (z_l C) (z_g C) (y_sd hx) h71) (z_lt0 (z_ok_sd (hx.1 d)) (by decide)) (z_kb62 (z_ok_sd (hx.1 d)) _) rfl rfl cv_L_9 (z_room hR ⟨Nat.le_of_ble_eq_true rfl, Nat.le_of_ble_eq_true rfl⟩) ⟨rfl, rfl⟩ rfl rfl (Nat.le_of_ble_eq_true rfl) dL_asks_71 ?_
  refine z_lload_n (hx.1 d) 2 dL_asks_74 rfl ?_
  refine y_lcmp (hx.1 d) dL_asks_75 h (fun h => ?_)
  refine z_if_ne (hx.1 d) (tgt := 108) dL_asks_76 (by decide) h (fun h => h) (fun hc h => ?_) (fun hc h => ?_)
  · refine z_sub [] rfl ?_
    exact w_L_asks_b108 hx hn hR hq σ1 h d hd
  · refine z_aload_n (hx.1 d) 0 dL_asks_79 rfl ?_
    refine z_iconst (hx.1 d) (n := 2) dL_asks_80 ?_
    refine z_iload (hx.1 d) 3 dL_asks_81 rfl ?_
    obtain ⟨r4, σ3, h83, h⟩ := z_bind_some h
    refine y_callset hx (As := [.int (zi 2), .int (zi x4)]) (met_X5_set (z_l C) (z_g C) (y_sd hx) h83) rfl cv_L_37 (z_room hR ⟨Nat.le_of_ble_eq_true rfl, Nat.le_of_ble_eq_true rfl⟩) ⟨rfl, rfl⟩ rfl rfl (Nat.le_of_ble_eq_true rfl) dL_asks_83 ?_
    refine z_iload (hx.1 d) 6 dL_asks_86 rfl ?_
    refine z_icmp_ne (hx.1 d) (tgt := 108) dL_asks_88 (by decide) h (fun h => h) (fun hc h => ?_) (fun hc h => ?_)
    · refine z_sub [] rfl ?_
      exact w_L_asks_b108 hx hn hR hq σ3 h d hd
    · refine z_aload_n (hx.1 d) 0 dL_asks_91 rfl ?_
      refine z_iconst (hx.1 d) (n := 2) dL_asks_92 ?_
      obtain ⟨r6, σ5, h93, h⟩ := z_bind_some h
      refine z_calli (hx.1 d) (As := [.int (zi 2)]) (k := 62) (met_X5_sum (z_l C) (z_g C) (y_sd hx) h93) (z_lt0 (z_ok_sd (hx.1 d)) (by decide)) (z_kb62 (z_ok_sd (hx.1 d)) _) rfl rfl cv_L_53 (z_room hR ⟨Nat.le_of_ble_eq_true rfl, Nat.le_of_ble_eq_true rfl⟩) ⟨rfl, rfl⟩ rfl rfl (Nat.le_of_ble_eq_true rfl) dL_asks_93 ?_
      refine z_iload (hx.1 d) 5 dL_asks_96 rfl ?_
      refine z_icmp_gt (hx.1 d) (tgt := 108) dL_asks_98 (by decide) h (fun h => h) (fun hc h => ?_) (fun hc h => ?_)
      · refine z_sub [] rfl ?_
        exact w_L_asks_b108 hx hn hR hq σ5 h d hd
      · refine z_aload_n (hx.1 d) 0 dL_asks_101 rfl ?_
        obtain ⟨r8, σ7, h102, h⟩ := z_bind_some h
        refine z_calli (hx.1 d) (As := []) (k := 62) (met_X5_undo (z_l C) (z_g C) (y_sd hx) h102) (z_lt0 (z_ok_sd (hx.1 d)) (by decide)) (z_kb62 (z_ok_sd (hx.1 d)) _) rfl rfl cv_L_74 (z_room hR ⟨Nat.le_of_ble_eq_true rfl, Nat.le_of_ble_eq_true rfl⟩) ⟨rfl, rfl⟩ rfl rfl (Nat.le_of_ble_eq_true rfl) dL_asks_102 ?_
        refine z_if_ge (hx.1 d) (tgt := 110) dL_asks_105 (by decide) h (fun h => h) (fun hc h => ?_) (fun hc h => ?_)
        · refine z_aload_n (hx.1 d) 0 dL_asks_110 rfl ?_
          refine z_iconst (hx.1 d) (n := 0) dL_asks_111 ?_
          obtain ⟨r10, σ9, h112, h⟩ := z_bind_some h
          refine z_calli (hx.1 d) (As := [.int (zi 0)]) (k := 62) (met_X5_setting (z_l C) (z_g C) (y_sd hx) h112) (z_lt0 (z_ok_sd (hx.1 d)) (by decide)) (z_kb62 (z_ok_sd (hx.1 d)) _) rfl rfl cv_L_15 (z_room hR ⟨Nat.le_of_ble_eq_true rfl, Nat.le_of_ble_eq_true rfl⟩) ⟨rfl, rfl⟩ rfl rfl (Nat.le_of_ble_eq_true rfl) dL_asks_112 ?_
          refine z_istore (hx.1 d) hn (lv' := [(8, .int (zi r10)), (0, .ref (z_ad (z_g C) 62)), (1, .int (zi x1)), (2, .long (zl y2)), (4, .int (zi x4)), (5, .int (zi x5)), (6, .int (zi x6)), (7, .int (zi x7))]) dL_asks_115 (by decide) rfl ?_
          refine z_iload (hx.1 d) 5 dL_asks_117 rfl ?_
          refine z_if_lt (hx.1 d) (tgt := 150) dL_asks_119 (by decide) h (fun h => h) (fun hc h => ?_) (fun hc h => ?_)
          · refine z_sub [1, 3] rfl ?_
            exact w_L_asks_b150 hx hn hR hq σ9 y2 h d hd
          · refine z_aload_n (hx.1 d) 1 dL_asks_122 rfl ?_
            refine z_iconst (hx.1 d) (n := 0) dL_asks_123 ?_
            refine z_iload (hx.1 d) 5 dL_asks_124 rfl ?_
            obtain ⟨r12, σ11, h126, h⟩ := z_bind_some h
            refine y_callset hx (As := [.int (zi 0), .int (zi x5)]) (met_X5_set (z_l C) (z_g C) (y_sd hx) h126) rfl cv_L_37 (z_room hR ⟨Nat.le_of_ble_eq_true rfl, Nat.le_of_ble_eq_true rfl⟩) ⟨rfl, rfl⟩ rfl rfl (Nat.le_of_ble_eq_true rfl) dL_asks_126 ?_
            refine z_iload (hx.1 d) 0 dL_asks_129 rfl ?_
            refine z_icmp_ne (hx.1 d) (tgt := 163) dL_asks_131 (by decide) h (fun h => h) (fun hc h => ?_) (fun hc h => ?_)
            · refine z_sub [] rfl ?_
              exact w_L_asks_b163 hx hn hR hq σ11 h d hd
            · refine z_aload_n (hx.1 d) 1 dL_asks_134 rfl ?_
              refine z_iconst (hx.1 d) (n := 0) dL_asks_135 ?_
              obtain ⟨r14, σ13, h136, h⟩ := z_bind_some h
              refine z_calli (hx.1 d) (As := [.int (zi 0)]) (k := 62) (met_X5_sum (z_l C) (z_g C) (y_sd hx) h136) (z_lt0 (z_ok_sd (hx.1 d)) (by decide)) (z_kb62 (z_ok_sd (hx.1 d)) _) rfl rfl cv_L_53 (z_room hR ⟨Nat.le_of_ble_eq_true rfl, Nat.le_of_ble_eq_true rfl⟩) ⟨rfl, rfl⟩ rfl rfl (Nat.le_of_ble_eq_true rfl) dL_asks_136 ?_
              refine z_iload_n (hx.1 d) 2 dL_asks_139 rfl ?_
              refine z_icmp_gt (hx.1 d) (tgt := 163) dL_asks_140 (by decide) h (fun h => h) (fun hc h => ?_) (fun hc h => ?_)
              · refine z_sub [] rfl ?_
                exact w_L_asks_b163 hx hn hR hq σ13 h d hd
              · refine z_aload_n (hx.1 d) 1 dL_asks_143 rfl ?_
                obtain ⟨r16, σ15, h144, h⟩ := z_bind_some h
                refine z_calli (hx.1 d) (As := []) (k := 62) (met_X5_undo (z_l C) (z_g C) (y_sd hx) h144) (z_lt0 (z_ok_sd (hx.1 d)) (by decide)) (z_kb62 (z_ok_sd (hx.1 d)) _) rfl rfl cv_L_74 (z_room hR ⟨Nat.le_of_ble_eq_true rfl, Nat.le_of_ble_eq_true rfl⟩) ⟨rfl, rfl⟩ rfl rfl (Nat.le_of_ble_eq_true rfl) dL_asks_144 ?_
                refine z_if_lt (hx.1 d) (tgt := 163) dL_asks_147 (by decide) h (fun h => h) (fun hc h => ?_) (fun hc h => ?_)
                · refine z_sub [] rfl ?_
                  exact w_L_asks_b163 hx hn hR hq σ15 h d hd
                · refine z_sub [1, 3] rfl ?_
                  exact w_L_asks_b150 hx hn hR hq σ15 y2 h d hd
        · refine z_sub [] rfl ?_
          exact w_L_asks_b108 hx hn hR hq σ7 h d hd

theorem w_L_asks {C : zC} {E : yE} (hx : y_ok C cL_asks RL E) (hn : z_nL C = 9) (hR : z_R C = rm_L_asks) {rr : Int × zS} (hq : y_fin C (some .boolean) (z_QI (z_g C) rr.1 rr.2)) (σ : zS) (x1 : Int) (h : f_L_asks σ x1 = some rr) : y_W C σ 0 [(0, .ref (z_ad (z_g C) 62)), (1, .int (zi x1))] [] := by
  intro d hd
  unfold f_L_asks at h
  refine z_aload_n (hx.1 d) 0 dL_asks_0 rfl ?_
  obtain ⟨r2, σ1, h1, h⟩ := z_bind_some h
  refine z_calll (hx.1 d) (As := []) (k := 62) (met_X5_fingerprint (z_l C) (z_g C) (y_sd hx) h1) (z_lt0 (z_ok_sd (hx.1 d)) (by decide)) (z_kb62 (z_ok_sd (hx.1 d)) _) rfl rfl cv_L_9 (z_room hR ⟨Nat.le_of_ble_eq_true rfl, Nat.le_of_ble_eq_true rfl⟩) ⟨rfl, rfl⟩ rfl rfl (Nat.le_of_ble_eq_true rfl) dL_asks_1 ?_
  refine z_lstore_n (hx.1 d) hn (lv' := [(2, .long (zl r2)), (0, .ref (z_ad (z_g C) 62)), (1, .int (zi x1))]) dL_asks_4 (by decide) rfl ?_
  refine z_aload_n (hx.1 d) 1 dL_asks_5 rfl ?_
  obtain ⟨r4, σ3, h6, h⟩ := z_bind_some h
  refine z_calli (hx.1 d) (As := []) (k := 62) (met_X5_bestWindow (z_l C) (z_g C) (y_sd hx) h6) (z_lt0 (z_ok_sd (hx.1 d)) (by decide)) (z_kb62 (z_ok_sd (hx.1 d)) _) rfl rfl cv_L_87 (z_room hR ⟨Nat.le_of_ble_eq_true rfl, Nat.le_of_ble_eq_true rfl⟩) ⟨rfl, rfl⟩ rfl rfl (Nat.le_of_ble_eq_true rfl) dL_asks_6 ?_
  refine z_istore (hx.1 d) hn (lv' := [(4, .int (zi r4)), (2, .long (zl r2)), (0, .ref (z_ad (z_g C) 62)), (1, .int (zi x1))]) dL_asks_9 (by decide) rfl ?_
  refine z_aload_n (hx.1 d) 2 dL_asks_11 rfl ?_
  refine z_iload_n (hx.1 d) 3 dL_asks_12 rfl ?_
  obtain ⟨r6, σ5, h13, h⟩ := z_bind_some h
  refine z_calli (hx.1 d) (As := [.int (zi x1)]) (k := 62) (met_X5_greatestDoubt (z_l C) (z_g C) (y_sd hx) h13) (z_lt0 (z_ok_sd (hx.1 d)) (by decide)) (z_kb62 (z_ok_sd (hx.1 d)) _) rfl rfl cv_L_56 (z_room hR ⟨Nat.le_of_ble_eq_true rfl, Nat.le_of_ble_eq_true rfl⟩) ⟨rfl, rfl⟩ rfl rfl (Nat.le_of_ble_eq_true rfl) dL_asks_13 ?_
  refine z_istore (hx.1 d) hn (lv' := [(5, .int (zi r6)), (4, .int (zi r4)), (2, .long (zl r2)), (0, .ref (z_ad (z_g C) 62)), (1, .int (zi x1))]) dL_asks_16 (by decide) rfl ?_
  refine z_aload_n (hx.1 d) 3 dL_asks_18 rfl ?_
  refine z_iconst (hx.1 d) (n := 2) dL_asks_19 ?_
  obtain ⟨r8, σ7, h20, h⟩ := z_bind_some h
  refine z_calli (hx.1 d) (As := [.int (zi 2)]) (k := 62) (met_X5_sum (z_l C) (z_g C) (y_sd hx) h20) (z_lt0 (z_ok_sd (hx.1 d)) (by decide)) (z_kb62 (z_ok_sd (hx.1 d)) _) rfl rfl cv_L_53 (z_room hR ⟨Nat.le_of_ble_eq_true rfl, Nat.le_of_ble_eq_true rfl⟩) ⟨rfl, rfl⟩ rfl rfl (Nat.le_of_ble_eq_true rfl) dL_asks_20 ?_
  refine z_istore (hx.1 d) hn (lv' := [(6, .int (zi r8)), (5, .int (zi r6)), (4, .int (zi r4)), (2, .long (zl r2)), (0, .ref (z_ad (z_g C) 62)), (1, .int (zi x1))]) dL_asks_23 (by decide) rfl ?_
  refine z_aload_n (hx.1 d) 4 dL_asks_25 rfl ?_
  refine z_iconst (hx.1 d) (n := 2) dL_asks_26 ?_
  obtain ⟨r10, σ9, h27, h⟩ := z_bind_some h
  refine z_calli (hx.1 d) (As := [.int (zi 2)]) (k := 62) (met_X5_setting (z_l C) (z_g C) (y_sd hx) h27) (z_lt0 (z_ok_sd (hx.1 d)) (by decide)) (z_kb62 (z_ok_sd (hx.1 d)) _) rfl rfl cv_L_15 (z_room hR ⟨Nat.le_of_ble_eq_true rfl, Nat.le_of_ble_eq_true rfl⟩) ⟨rfl, rfl⟩ rfl rfl (Nat.le_of_ble_eq_true rfl) dL_asks_27 ?_
  refine z_istore (hx.1 d) hn (lv' := [(7, .int (zi r10)), (6, .int (zi r8)), (5, .int (zi r6)), (4, .int (zi r4)), (2, .long (zl r2)), (0, .ref (z_ad (z_g C) 62)), (1, .int (zi x1))]) dL_asks_30 (by decide) rfl ?_
  refine z_iload (hx.1 d) 3 dL_asks_32 rfl ?_
  refine z_if_lt (hx.1 d) (tgt := 108) dL_asks_34 (by decide) h (fun h => h) (fun hc h => ?_) (fun hc h => ?_)
  · refine z_sub [] rfl ?_
    exact w_L_asks_b108 hx hn hR hq σ9 h d hd
  · refine z_iload (hx.1 d) 3 dL_asks_37 rfl ?_
    refine z_bipush (hx.1 d) (n := 20) dL_asks_39 rfl ?_
    refine z_icmp_gt (hx.1 d) (tgt := 108) dL_asks_41 (by decide) h (fun h => ⟨h, by decide⟩) (fun hc h => ?_) (fun hc h => ?_)
    · refine z_sub [] rfl ?_
      exact w_L_asks_b108 hx hn hR hq σ9 h d hd
    · refine z_iload (hx.1 d) 2 dL_asks_44 rfl ?_
      refine z_bipush (hx.1 d) (n := 100) dL_asks_46 rfl ?_
      refine z_icmp_gt (hx.1 d) (tgt := 108) dL_asks_48 (by decide) h (fun h => ⟨h, by decide⟩) (fun hc h => ?_) (fun hc h => ?_)
      · refine z_sub [] rfl ?_
        exact w_L_asks_b108 hx hn hR hq σ9 h d hd
      · refine z_iload (hx.1 d) 2 dL_asks_51 rfl ?_
        refine z_bipush (hx.1 d) (n := (-9)) dL_asks_53 rfl ?_
        refine z_icmp_lt (hx.1 d) (tgt := 108) dL_asks_55 (by decide) h (fun h => ⟨h, by decide⟩) (fun hc h => ?_) (fun hc h => ?_)
        · refine z_sub [] rfl ?_
          exact w_L_asks_b108 hx hn hR hq σ9 h d hd
        · refine z_iload (hx.1 d) 2 dL_asks_58 rfl ?_
          refine z_if_ge (hx.1 d) (tgt := 70) dL_asks_60 (by decide) h (fun h => h) (fun hc h => ?_) (fun hc h => ?_)
          · refine z_sub [5, 6, 4, 3, 2, 1, 0] rfl ?_
            exact w_L_asks_b70 hx hn hR hq σ9 x1 r2 r4 r6 r8 r10 h d hd
          · refine z_iload (hx.1 d) 2 dL_asks_63 rfl ?_
            refine z_bipush (hx.1 d) (n := (-9)) dL_asks_65 rfl ?_
            refine z_icmp_ne (hx.1 d) (tgt := 108) dL_asks_67 (by decide) h (fun h => ⟨h, by decide⟩) (fun hc h => ?_) (fun hc h => ?_)
            · refine z_sub [] rfl ?_
              exact w_L_asks_b108 hx hn hR hq σ9 h d hd
            · refine z_sub [5, 6, 4, 3, 2, 1, 0] rfl ?_
              exact w_L_asks_b70 hx hn hR hq σ9 x1 r2 r4 r6 r8 r10 h d hd

theorem met_L_asks (l : Launch) (g : zG) (E : yE) (hg : g.1 = 0) {σ : zS} {x1 : Int} {rr : Int × zS} (h : f_L_asks σ x1 = some rr) : y_Met l yL_asks cL_asks 9 (some .boolean) rm_L_asks g E [.ref (z_ad (g) 62), .int (zi x1)] σ (z_QI g rr.1 rr.2) := by
  refine y_enter (own := RL) (lv0 := [(0, .ref (z_ad (g) 62)), (1, .int (zi x1))]) (by decide) rfl (Nat.le_of_ble_eq_true rfl) hg rfl (fun C hx hl hgC hR hn hq => ?_)
  subst hgC
  intro d hd
  refine z_sub [0, 1] rfl ?_
  exact w_L_asks hx hn hR hq σ x1 h d hd
