/-! walks, by program: ['X0', 'X1'] -/
theorem dX0_endOfLastCut_0 : decode cX0_endOfLastCut 0 = .ok (.aload_n 0, 1) := by decide +kernel
theorem dX0_endOfLastCut_1 : decode cX0_endOfLastCut 1 = .ok (.getfield 28, 3) := by decide +kernel
theorem dX0_endOfLastCut_4 : decode cX0_endOfLastCut 4 = .ok (.ifCond .le 26, 3) := by decide +kernel
theorem dX0_endOfLastCut_7 : decode cX0_endOfLastCut 7 = .ok (.aload_n 0, 1) := by decide +kernel
theorem dX0_endOfLastCut_8 : decode cX0_endOfLastCut 8 = .ok (.getfield 28, 3) := by decide +kernel
theorem dX0_endOfLastCut_11 : decode cX0_endOfLastCut 11 = .ok (.bipush 20, 2) := by decide +kernel
theorem dX0_endOfLastCut_13 : decode cX0_endOfLastCut 13 = .ok (.if_icmp .gt 17, 3) := by decide +kernel
theorem dX0_endOfLastCut_16 : decode cX0_endOfLastCut 16 = .ok (.aload_n 0, 1) := by decide +kernel
theorem dX0_endOfLastCut_17 : decode cX0_endOfLastCut 17 = .ok (.getfield 15, 3) := by decide +kernel
theorem dX0_endOfLastCut_20 : decode cX0_endOfLastCut 20 = .ok (.aload_n 0, 1) := by decide +kernel
theorem dX0_endOfLastCut_21 : decode cX0_endOfLastCut 21 = .ok (.getfield 28, 3) := by decide +kernel
theorem dX0_endOfLastCut_24 : decode cX0_endOfLastCut 24 = .ok (.iconst 1, 1) := by decide +kernel
theorem dX0_endOfLastCut_25 : decode cX0_endOfLastCut 25 = .ok (.isub, 1) := by decide +kernel
theorem dX0_endOfLastCut_26 : decode cX0_endOfLastCut 26 = .ok (.iaload, 1) := by decide +kernel
theorem dX0_endOfLastCut_27 : decode cX0_endOfLastCut 27 = .ok (.goto 4, 3) := by decide +kernel
theorem dX0_endOfLastCut_30 : decode cX0_endOfLastCut 30 = .ok (.iconst 0, 1) := by decide +kernel
theorem dX0_endOfLastCut_31 : decode cX0_endOfLastCut 31 = .ok (.ireturn, 1) := by decide +kernel
abbrev rm_X0_endOfLastCut : Room := { frames := 0, cells := 0, slots := 0, locals := 0 }
theorem w_X0_endOfLastCut_b31 {C : zC} (hx : z_ok C cX0_endOfLastCut RX0 0) (hn : z_nL C = 1) (hR : z_R C = rm_X0_endOfLastCut) {rr : Int × zS} (hq : z_fin C (some .int) (z_QI (z_g C) rr.1 rr.2)) (σ : zS) (s0 : Int) (h : f_X0_endOfLastCut_b31 σ s0 = some rr) : z_W C σ 31 [] [.int (zi s0)] := by
  unfold f_X0_endOfLastCut_b31 at h
  cases h
  exact z_iret hx hq dX0_endOfLastCut_31

theorem w_X0_endOfLastCut_b30 {C : zC} (hx : z_ok C cX0_endOfLastCut RX0 0) (hn : z_nL C = 1) (hR : z_R C = rm_X0_endOfLastCut) {rr : Int × zS} (hq : z_fin C (some .int) (z_QI (z_g C) rr.1 rr.2)) (σ : zS) (h : f_X0_endOfLastCut_b30 σ = some rr) : z_W C σ 30 [] [] := by
  unfold f_X0_endOfLastCut_b30 at h
  refine z_iconst hx (n := 0) dX0_endOfLastCut_30 ?_
  refine z_sub [] rfl ?_
  exact w_X0_endOfLastCut_b31 hx hn hR hq σ 0 h

theorem w_X0_endOfLastCut {C : zC} (hx : z_ok C cX0_endOfLastCut RX0 0) (hn : z_nL C = 1) (hR : z_R C = rm_X0_endOfLastCut) {rr : Int × zS} (hq : z_fin C (some .int) (z_QI (z_g C) rr.1 rr.2)) (σ : zS) (h : f_X0_endOfLastCut σ = some rr) : z_W C σ 0 [(0, .ref (z_ad (z_g C) 48))] [] := by
  unfold f_X0_endOfLastCut at h
  refine z_aload_n hx 0 dX0_endOfLastCut_0 rfl ?_
  refine gf_X0_count hx wf_X0_28 dX0_endOfLastCut_1 ?_
  refine z_if_le hx (tgt := 30) dX0_endOfLastCut_4 (by decide) h (fun h => h) (fun hc h => ?_) (fun hc h => ?_)
  · refine z_sub [] rfl ?_
    exact w_X0_endOfLastCut_b30 hx hn hR hq σ h
  · refine z_aload_n hx 0 dX0_endOfLastCut_7 rfl ?_
    refine gf_X0_count hx wf_X0_28 dX0_endOfLastCut_8 ?_
    refine z_bipush hx (n := 20) dX0_endOfLastCut_11 rfl ?_
    refine z_icmp_gt hx (tgt := 30) dX0_endOfLastCut_13 (by decide) h (fun h => ⟨h, by decide⟩) (fun hc h => ?_) (fun hc h => ?_)
    · refine z_sub [] rfl ?_
      exact w_X0_endOfLastCut_b30 hx hn hR hq σ h
    · refine z_aload_n hx 0 dX0_endOfLastCut_16 rfl ?_
      refine gf_X0_ends hx wf_X0_15 dX0_endOfLastCut_17 ?_
      refine z_aload_n hx 0 dX0_endOfLastCut_20 rfl ?_
      refine gf_X0_count hx wf_X0_28 dX0_endOfLastCut_21 ?_
      refine z_iconst hx (n := 1) dX0_endOfLastCut_24 ?_
      refine z_isub hx dX0_endOfLastCut_25 ?_
      refine z_iald hx (n := 20) (z_lt0 (z_ok_sd hx) (by decide)) (z_kb50 (z_ok_sd hx) _) rfl (by decide) dX0_endOfLastCut_26 h (fun h => ?_)
      refine z_goto hx (tgt := 31) dX0_endOfLastCut_27 (by decide) ?_
      refine z_sub [] rfl ?_
      exact w_X0_endOfLastCut_b31 hx hn hR hq σ (σ 50 ((σ 48 5) - 1)) h

theorem met_X0_endOfLastCut (l : Launch) (g : zG) (hg : g.1 = 0) {σ : zS} {rr : Int × zS} (h : f_X0_endOfLastCut σ = some rr) : z_Met l yX0_endOfLastCut cX0_endOfLastCut 1 (some .int) rm_X0_endOfLastCut g [.ref (z_ad (g) 48)] σ (z_QI g rr.1 rr.2) := by
  refine z_enter (own := RX0) (sd := 0) (lv0 := [(0, .ref (z_ad (g) 48))]) (by decide) rfl (Nat.le_of_ble_eq_true rfl) hg rfl (fun C hx hl hgC hR hn hq => ?_)
  subst hgC
  refine z_sub [0] rfl ?_
  exact w_X0_endOfLastCut hx hn hR hq σ h
theorem dX0_addCut_0 : decode cX0_addCut 0 = .ok (.aload_n 0, 1) := by decide +kernel
theorem dX0_addCut_1 : decode cX0_addCut 1 = .ok (.getfield 28, 3) := by decide +kernel
theorem dX0_addCut_4 : decode cX0_addCut 4 = .ok (.bipush 20, 2) := by decide +kernel
theorem dX0_addCut_6 : decode cX0_addCut 6 = .ok (.if_icmp .lt 4, 3) := by decide +kernel
theorem dX0_addCut_9 : decode cX0_addCut 9 = .ok (.return_, 1) := by decide +kernel
theorem dX0_addCut_10 : decode cX0_addCut 10 = .ok (.aload_n 0, 1) := by decide +kernel
theorem dX0_addCut_11 : decode cX0_addCut 11 = .ok (.getfield 9, 3) := by decide +kernel
theorem dX0_addCut_14 : decode cX0_addCut 14 = .ok (.aload_n 0, 1) := by decide +kernel
theorem dX0_addCut_15 : decode cX0_addCut 15 = .ok (.getfield 28, 3) := by decide +kernel
theorem dX0_addCut_18 : decode cX0_addCut 18 = .ok (.iload_n 1, 1) := by decide +kernel
theorem dX0_addCut_19 : decode cX0_addCut 19 = .ok (.iastore, 1) := by decide +kernel
theorem dX0_addCut_20 : decode cX0_addCut 20 = .ok (.aload_n 0, 1) := by decide +kernel
theorem dX0_addCut_21 : decode cX0_addCut 21 = .ok (.getfield 15, 3) := by decide +kernel
theorem dX0_addCut_24 : decode cX0_addCut 24 = .ok (.aload_n 0, 1) := by decide +kernel
theorem dX0_addCut_25 : decode cX0_addCut 25 = .ok (.getfield 28, 3) := by decide +kernel
theorem dX0_addCut_28 : decode cX0_addCut 28 = .ok (.iload_n 2, 1) := by decide +kernel
theorem dX0_addCut_29 : decode cX0_addCut 29 = .ok (.iastore, 1) := by decide +kernel
theorem dX0_addCut_30 : decode cX0_addCut 30 = .ok (.aload_n 0, 1) := by decide +kernel
theorem dX0_addCut_31 : decode cX0_addCut 31 = .ok (.getfield 18, 3) := by decide +kernel
theorem dX0_addCut_34 : decode cX0_addCut 34 = .ok (.aload_n 0, 1) := by decide +kernel
theorem dX0_addCut_35 : decode cX0_addCut 35 = .ok (.getfield 28, 3) := by decide +kernel
theorem dX0_addCut_38 : decode cX0_addCut 38 = .ok (.iload_n 3, 1) := by decide +kernel
theorem dX0_addCut_39 : decode cX0_addCut 39 = .ok (.iastore, 1) := by decide +kernel
theorem dX0_addCut_40 : decode cX0_addCut 40 = .ok (.aload_n 0, 1) := by decide +kernel
theorem dX0_addCut_41 : decode cX0_addCut 41 = .ok (.getfield 21, 3) := by decide +kernel
theorem dX0_addCut_44 : decode cX0_addCut 44 = .ok (.aload_n 0, 1) := by decide +kernel
theorem dX0_addCut_45 : decode cX0_addCut 45 = .ok (.getfield 28, 3) := by decide +kernel
theorem dX0_addCut_48 : decode cX0_addCut 48 = .ok (.iload 4, 2) := by decide +kernel
theorem dX0_addCut_50 : decode cX0_addCut 50 = .ok (.bastore, 1) := by decide +kernel
theorem dX0_addCut_51 : decode cX0_addCut 51 = .ok (.aload_n 0, 1) := by decide +kernel
theorem dX0_addCut_52 : decode cX0_addCut 52 = .ok (.getfield 25, 3) := by decide +kernel
theorem dX0_addCut_55 : decode cX0_addCut 55 = .ok (.aload_n 0, 1) := by decide +kernel
theorem dX0_addCut_56 : decode cX0_addCut 56 = .ok (.getfield 28, 3) := by decide +kernel
theorem dX0_addCut_59 : decode cX0_addCut 59 = .ok (.iload 5, 2) := by decide +kernel
theorem dX0_addCut_61 : decode cX0_addCut 61 = .ok (.iastore, 1) := by decide +kernel
theorem dX0_addCut_62 : decode cX0_addCut 62 = .ok (.aload_n 0, 1) := by decide +kernel
theorem dX0_addCut_63 : decode cX0_addCut 63 = .ok (.dup, 1) := by decide +kernel
theorem dX0_addCut_64 : decode cX0_addCut 64 = .ok (.getfield 28, 3) := by decide +kernel
theorem dX0_addCut_67 : decode cX0_addCut 67 = .ok (.iconst 1, 1) := by decide +kernel
theorem dX0_addCut_68 : decode cX0_addCut 68 = .ok (.iadd, 1) := by decide +kernel
theorem dX0_addCut_69 : decode cX0_addCut 69 = .ok (.putfield 28, 3) := by decide +kernel
theorem dX0_addCut_72 : decode cX0_addCut 72 = .ok (.return_, 1) := by decide +kernel
abbrev rm_X0_addCut : Room := { frames := 0, cells := 0, slots := 0, locals := 0 }
theorem w_X0_addCut {C : zC} (hx : z_ok C cX0_addCut RX0 0) (hn : z_nL C = 6) (hR : z_R C = rm_X0_addCut) {rr : Unit × zS} (hq : z_fin C none (z_QV (z_g C) rr.2)) (σ : zS) (x1 : Int) (x2 : Int) (x3 : Int) (x4 : Int) (x5 : Int) (h : f_X0_addCut σ x1 x2 x3 x4 x5 = some rr) : z_W C σ 0 [(0, .ref (z_ad (z_g C) 48)), (1, .int (zi x1)), (2, .int (zi x2)), (3, .int (zi x3)), (4, .int (zi x4)), (5, .int (zi x5))] [] := by
  unfold f_X0_addCut at h
  refine z_aload_n hx 0 dX0_addCut_0 rfl ?_
  refine gf_X0_count hx wf_X0_28 dX0_addCut_1 ?_
  refine z_bipush hx (n := 20) dX0_addCut_4 rfl ?_
  refine z_icmp_lt hx (tgt := 10) dX0_addCut_6 (by decide) h (fun h => ⟨h, by decide⟩) (fun hc h => ?_) (fun hc h => ?_)
  · refine z_aload_n hx 0 dX0_addCut_10 rfl ?_
    refine gf_X0_begins hx wf_X0_9 dX0_addCut_11 ?_
    refine z_aload_n hx 0 dX0_addCut_14 rfl ?_
    refine gf_X0_count hx wf_X0_28 dX0_addCut_15 ?_
    refine z_iload_n hx 1 dX0_addCut_18 rfl ?_
    refine z_iast hx (n := 20) (z_lt0 (z_ok_sd hx) (by decide)) (z_kb49 (z_ok_sd hx)) rfl (by decide) dX0_addCut_19 h (fun σ1 h => ?_)
    refine z_aload_n hx 0 dX0_addCut_20 rfl ?_
    refine gf_X0_ends hx wf_X0_15 dX0_addCut_21 ?_
    refine z_aload_n hx 0 dX0_addCut_24 rfl ?_
    refine gf_X0_count hx wf_X0_28 dX0_addCut_25 ?_
    refine z_iload_n hx 2 dX0_addCut_28 rfl ?_
    refine z_iast hx (n := 20) (z_lt0 (z_ok_sd hx) (by decide)) (z_kb50 (z_ok_sd hx)) rfl (by decide) dX0_addCut_29 h (fun σ2 h => ?_)
    refine z_aload_n hx 0 dX0_addCut_30 rfl ?_
    refine gf_X0_pauses hx wf_X0_18 dX0_addCut_31 ?_
    refine z_aload_n hx 0 dX0_addCut_34 rfl ?_
    refine gf_X0_count hx wf_X0_28 dX0_addCut_35 ?_
    refine z_iload_n hx 3 dX0_addCut_38 rfl ?_
    refine z_iast hx (n := 20) (z_lt0 (z_ok_sd hx) (by decide)) (z_kb51 (z_ok_sd hx)) rfl (by decide) dX0_addCut_39 h (fun σ3 h => ?_)
    refine z_aload_n hx 0 dX0_addCut_40 rfl ?_
    refine gf_X0_rough hx wf_X0_21 dX0_addCut_41 ?_
    refine z_aload_n hx 0 dX0_addCut_44 rfl ?_
    refine gf_X0_count hx wf_X0_28 dX0_addCut_45 ?_
    refine z_iload hx 4 dX0_addCut_48 rfl ?_
    refine z_zast hx (n := 20) (z_lt0 (z_ok_sd hx) (by decide)) (z_kb52 (z_ok_sd hx)) rfl (by decide) dX0_addCut_50 h (fun σ4 h => ?_)
    refine z_aload_n hx 0 dX0_addCut_51 rfl ?_
    refine gf_X0_markNumbers hx wf_X0_25 dX0_addCut_52 ?_
    refine z_aload_n hx 0 dX0_addCut_55 rfl ?_
    refine gf_X0_count hx wf_X0_28 dX0_addCut_56 ?_
    refine z_iload hx 5 dX0_addCut_59 rfl ?_
    refine z_iast hx (n := 20) (z_lt0 (z_ok_sd hx) (by decide)) (z_kb53 (z_ok_sd hx)) rfl (by decide) dX0_addCut_61 h (fun σ5 h => ?_)
    refine z_aload_n hx 0 dX0_addCut_62 rfl ?_
    refine z_dup hx dX0_addCut_63 rfl ?_
    refine gf_X0_count hx wf_X0_28 dX0_addCut_64 ?_
    refine z_iconst hx (n := 1) dX0_addCut_67 ?_
    refine z_iadd hx dX0_addCut_68 ?_
    refine pf_X0_count hx wf_X0_28 dX0_addCut_69 h (fun σ6 h => ?_)
    cases h
    exact z_vret hx hq dX0_addCut_72
  · cases h
    exact z_vret hx hq dX0_addCut_9

theorem met_X0_addCut (l : Launch) (g : zG) (hg : g.1 = 0) {σ : zS} {x1 : Int} {x2 : Int} {x3 : Int} {x4 : Int} {x5 : Int} {rr : Unit × zS} (h : f_X0_addCut σ x1 x2 x3 x4 x5 = some rr) : z_Met l yX0_addCut cX0_addCut 6 none rm_X0_addCut g [.ref (z_ad (g) 48), .int (zi x1), .int (zi x2), .int (zi x3), .int (zi x4), .int (zi x5)] σ (z_QV g rr.2) := by
  refine z_enter (own := RX0) (sd := 0) (lv0 := [(0, .ref (z_ad (g) 48)), (1, .int (zi x1)), (2, .int (zi x2)), (3, .int (zi x3)), (4, .int (zi x4)), (5, .int (zi x5))]) (by decide) rfl (Nat.le_of_ble_eq_true rfl) hg rfl (fun C hx hl hgC hR hn hq => ?_)
  subst hgC
  refine z_sub [0, 1, 2, 3, 4, 5] rfl ?_
  exact w_X0_addCut hx hn hR hq σ x1 x2 x3 x4 x5 h
theorem dX0_addFillerCut_0 : decode cX0_addFillerCut 0 = .ok (.aload_n 1, 1) := by decide +kernel
theorem dX0_addFillerCut_1 : decode cX0_addFillerCut 1 = .ok (.getfield 54, 3) := by decide +kernel
theorem dX0_addFillerCut_4 : decode cX0_addFillerCut 4 = .ok (.iload_n 2, 1) := by decide +kernel
theorem dX0_addFillerCut_5 : decode cX0_addFillerCut 5 = .ok (.iaload, 1) := by decide +kernel
theorem dX0_addFillerCut_6 : decode cX0_addFillerCut 6 = .ok (.istore 4, 2) := by decide +kernel
theorem dX0_addFillerCut_8 : decode cX0_addFillerCut 8 = .ok (.aload_n 0, 1) := by decide +kernel
theorem dX0_addFillerCut_9 : decode cX0_addFillerCut 9 = .ok (.invokevirtual 55, 3) := by decide +kernel
theorem dX0_addFillerCut_12 : decode cX0_addFillerCut 12 = .ok (.aload_n 1, 1) := by decide +kernel
theorem dX0_addFillerCut_13 : decode cX0_addFillerCut 13 = .ok (.iload_n 2, 1) := by decide +kernel
theorem dX0_addFillerCut_14 : decode cX0_addFillerCut 14 = .ok (.invokevirtual 59, 3) := by decide +kernel
theorem dX0_addFillerCut_17 : decode cX0_addFillerCut 17 = .ok (.invokestatic 63, 3) := by decide +kernel
theorem dX0_addFillerCut_20 : decode cX0_addFillerCut 20 = .ok (.istore 5, 2) := by decide +kernel
theorem dX0_addFillerCut_22 : decode cX0_addFillerCut 22 = .ok (.aload_n 1, 1) := by decide +kernel
theorem dX0_addFillerCut_23 : decode cX0_addFillerCut 23 = .ok (.aload_n 1, 1) := by decide +kernel
theorem dX0_addFillerCut_24 : decode cX0_addFillerCut 24 = .ok (.getfield 69, 3) := by decide +kernel
theorem dX0_addFillerCut_27 : decode cX0_addFillerCut 27 = .ok (.iload_n 2, 1) := by decide +kernel
theorem dX0_addFillerCut_28 : decode cX0_addFillerCut 28 = .ok (.iaload, 1) := by decide +kernel
theorem dX0_addFillerCut_29 : decode cX0_addFillerCut 29 = .ok (.iload_n 3, 1) := by decide +kernel
theorem dX0_addFillerCut_30 : decode cX0_addFillerCut 30 = .ok (.iload 5, 2) := by decide +kernel
theorem dX0_addFillerCut_32 : decode cX0_addFillerCut 32 = .ok (.iload 4, 2) := by decide +kernel
theorem dX0_addFillerCut_34 : decode cX0_addFillerCut 34 = .ok (.iconst 1, 1) := by decide +kernel
theorem dX0_addFillerCut_35 : decode cX0_addFillerCut 35 = .ok (.isub, 1) := by decide +kernel
theorem dX0_addFillerCut_36 : decode cX0_addFillerCut 36 = .ok (.invokevirtual 72, 3) := by decide +kernel
theorem dX0_addFillerCut_39 : decode cX0_addFillerCut 39 = .ok (.istore 6, 2) := by decide +kernel
theorem dX0_addFillerCut_41 : decode cX0_addFillerCut 41 = .ok (.iload 6, 2) := by decide +kernel
theorem dX0_addFillerCut_43 : decode cX0_addFillerCut 43 = .ok (.iconst (-1), 1) := by decide +kernel
theorem dX0_addFillerCut_44 : decode cX0_addFillerCut 44 = .ok (.if_icmp .ne 7, 3) := by decide +kernel
theorem dX0_addFillerCut_47 : decode cX0_addFillerCut 47 = .ok (.iconst 1, 1) := by decide +kernel
theorem dX0_addFillerCut_48 : decode cX0_addFillerCut 48 = .ok (.goto 4, 3) := by decide +kernel
theorem dX0_addFillerCut_51 : decode cX0_addFillerCut 51 = .ok (.iconst 0, 1) := by decide +kernel
theorem dX0_addFillerCut_52 : decode cX0_addFillerCut 52 = .ok (.istore 7, 2) := by decide +kernel
theorem dX0_addFillerCut_54 : decode cX0_addFillerCut 54 = .ok (.iload 7, 2) := by decide +kernel
theorem dX0_addFillerCut_56 : decode cX0_addFillerCut 56 = .ok (.ifCond .eq 11, 3) := by decide +kernel
theorem dX0_addFillerCut_59 : decode cX0_addFillerCut 59 = .ok (.aload_n 1, 1) := by decide +kernel
theorem dX0_addFillerCut_60 : decode cX0_addFillerCut 60 = .ok (.getfield 69, 3) := by decide +kernel
theorem dX0_addFillerCut_63 : decode cX0_addFillerCut 63 = .ok (.iload_n 2, 1) := by decide +kernel
theorem dX0_addFillerCut_64 : decode cX0_addFillerCut 64 = .ok (.iaload, 1) := by decide +kernel
theorem dX0_addFillerCut_65 : decode cX0_addFillerCut 65 = .ok (.istore 6, 2) := by decide +kernel
theorem dX0_addFillerCut_67 : decode cX0_addFillerCut 67 = .ok (.aload_n 1, 1) := by decide +kernel
theorem dX0_addFillerCut_68 : decode cX0_addFillerCut 68 = .ok (.iload_n 2, 1) := by decide +kernel
theorem dX0_addFillerCut_69 : decode cX0_addFillerCut 69 = .ok (.invokevirtual 76, 3) := by decide +kernel
theorem dX0_addFillerCut_72 : decode cX0_addFillerCut 72 = .ok (.istore 8, 2) := by decide +kernel
theorem dX0_addFillerCut_74 : decode cX0_addFillerCut 74 = .ok (.aload_n 1, 1) := by decide +kernel
theorem dX0_addFillerCut_75 : decode cX0_addFillerCut 75 = .ok (.iload 4, 2) := by decide +kernel
theorem dX0_addFillerCut_77 : decode cX0_addFillerCut 77 = .ok (.iload_n 3, 1) := by decide +kernel
theorem dX0_addFillerCut_78 : decode cX0_addFillerCut 78 = .ok (.iload 6, 2) := by decide +kernel
theorem dX0_addFillerCut_80 : decode cX0_addFillerCut 80 = .ok (.iconst 1, 1) := by decide +kernel
theorem dX0_addFillerCut_81 : decode cX0_addFillerCut 81 = .ok (.iadd, 1) := by decide +kernel
theorem dX0_addFillerCut_82 : decode cX0_addFillerCut 82 = .ok (.iload 8, 2) := by decide +kernel
theorem dX0_addFillerCut_84 : decode cX0_addFillerCut 84 = .ok (.invokevirtual 72, 3) := by decide +kernel
theorem dX0_addFillerCut_87 : decode cX0_addFillerCut 87 = .ok (.istore 9, 2) := by decide +kernel
theorem dX0_addFillerCut_89 : decode cX0_addFillerCut 89 = .ok (.iload 9, 2) := by decide +kernel
theorem dX0_addFillerCut_91 : decode cX0_addFillerCut 91 = .ok (.iconst (-1), 1) := by decide +kernel
theorem dX0_addFillerCut_92 : decode cX0_addFillerCut 92 = .ok (.if_icmp .ne 7, 3) := by decide +kernel
theorem dX0_addFillerCut_95 : decode cX0_addFillerCut 95 = .ok (.iconst 1, 1) := by decide +kernel
theorem dX0_addFillerCut_96 : decode cX0_addFillerCut 96 = .ok (.goto 4, 3) := by decide +kernel
theorem dX0_addFillerCut_99 : decode cX0_addFillerCut 99 = .ok (.iconst 0, 1) := by decide +kernel
theorem dX0_addFillerCut_100 : decode cX0_addFillerCut 100 = .ok (.istore 10, 2) := by decide +kernel
theorem dX0_addFillerCut_102 : decode cX0_addFillerCut 102 = .ok (.iload 10, 2) := by decide +kernel
theorem dX0_addFillerCut_104 : decode cX0_addFillerCut 104 = .ok (.ifCond .eq 7, 3) := by decide +kernel
theorem dX0_addFillerCut_107 : decode cX0_addFillerCut 107 = .ok (.iload 4, 2) := by decide +kernel
theorem dX0_addFillerCut_109 : decode cX0_addFillerCut 109 = .ok (.istore 9, 2) := by decide +kernel
theorem dX0_addFillerCut_111 : decode cX0_addFillerCut 111 = .ok (.iload 9, 2) := by decide +kernel
theorem dX0_addFillerCut_113 : decode cX0_addFillerCut 113 = .ok (.iload 6, 2) := by decide +kernel
theorem dX0_addFillerCut_115 : decode cX0_addFillerCut 115 = .ok (.isub, 1) := by decide +kernel
theorem dX0_addFillerCut_116 : decode cX0_addFillerCut 116 = .ok (.aload_n 1, 1) := by decide +kernel
theorem dX0_addFillerCut_117 : decode cX0_addFillerCut 117 = .ok (.getfield 79, 3) := by decide +kernel
theorem dX0_addFillerCut_120 : decode cX0_addFillerCut 120 = .ok (.iconst 4, 1) := by decide +kernel
theorem dX0_addFillerCut_121 : decode cX0_addFillerCut 121 = .ok (.iaload, 1) := by decide +kernel
theorem dX0_addFillerCut_122 : decode cX0_addFillerCut 122 = .ok (.imul, 1) := by decide +kernel
theorem dX0_addFillerCut_123 : decode cX0_addFillerCut 123 = .ok (.bipush 100, 2) := by decide +kernel
theorem dX0_addFillerCut_125 : decode cX0_addFillerCut 125 = .ok (.idiv, 1) := by decide +kernel
theorem dX0_addFillerCut_126 : decode cX0_addFillerCut 126 = .ok (.istore 11, 2) := by decide +kernel
theorem dX0_addFillerCut_128 : decode cX0_addFillerCut 128 = .ok (.aload_n 1, 1) := by decide +kernel
theorem dX0_addFillerCut_129 : decode cX0_addFillerCut 129 = .ok (.getfield 79, 3) := by decide +kernel
theorem dX0_addFillerCut_132 : decode cX0_addFillerCut 132 = .ok (.iconst 3, 1) := by decide +kernel
theorem dX0_addFillerCut_133 : decode cX0_addFillerCut 133 = .ok (.iaload, 1) := by decide +kernel
theorem dX0_addFillerCut_134 : decode cX0_addFillerCut 134 = .ok (.iload 11, 2) := by decide +kernel
theorem dX0_addFillerCut_136 : decode cX0_addFillerCut 136 = .ok (.invokestatic 82, 3) := by decide +kernel
theorem dX0_addFillerCut_139 : decode cX0_addFillerCut 139 = .ok (.istore 12, 2) := by decide +kernel
theorem dX0_addFillerCut_141 : decode cX0_addFillerCut 141 = .ok (.aload_n 0, 1) := by decide +kernel
theorem dX0_addFillerCut_142 : decode cX0_addFillerCut 142 = .ok (.iload 6, 2) := by decide +kernel
theorem dX0_addFillerCut_144 : decode cX0_addFillerCut 144 = .ok (.iload 9, 2) := by decide +kernel
theorem dX0_addFillerCut_146 : decode cX0_addFillerCut 146 = .ok (.iload 12, 2) := by decide +kernel
theorem dX0_addFillerCut_148 : decode cX0_addFillerCut 148 = .ok (.iload 7, 2) := by decide +kernel
theorem dX0_addFillerCut_150 : decode cX0_addFillerCut 150 = .ok (.ifCond .ne 8, 3) := by decide +kernel
theorem dX0_addFillerCut_153 : decode cX0_addFillerCut 153 = .ok (.iload 10, 2) := by decide +kernel
theorem dX0_addFillerCut_155 : decode cX0_addFillerCut 155 = .ok (.ifCond .eq 7, 3) := by decide +kernel
theorem dX0_addFillerCut_158 : decode cX0_addFillerCut 158 = .ok (.iconst 1, 1) := by decide +kernel
theorem dX0_addFillerCut_159 : decode cX0_addFillerCut 159 = .ok (.goto 4, 3) := by decide +kernel
theorem dX0_addFillerCut_162 : decode cX0_addFillerCut 162 = .ok (.iconst 0, 1) := by decide +kernel
theorem dX0_addFillerCut_163 : decode cX0_addFillerCut 163 = .ok (.iload_n 2, 1) := by decide +kernel
theorem dX0_addFillerCut_164 : decode cX0_addFillerCut 164 = .ok (.invokevirtual 85, 3) := by decide +kernel
theorem dX0_addFillerCut_167 : decode cX0_addFillerCut 167 = .ok (.return_, 1) := by decide +kernel
abbrev rm_X0_addFillerCut : Room := { frames := 3, cells := 0, slots := 0, locals := 70 }
theorem w_X0_addFillerCut_b163 {C : zC} (hx : z_ok C cX0_addFillerCut RX0 0) (hn : z_nL C = 13) (hR : z_R C = rm_X0_addFillerCut) {rr : Unit × zS} (hq : z_fin C none (z_QV (z_g C) rr.2)) (σ : zS) (x2 : Int) (s1 : Int) (s2 : Int) (s3 : Int) (s4 : Int) (h : f_X0_addFillerCut_b163 σ x2 s1 s2 s3 s4 = some rr) : z_W C σ 163 [(2, .int (zi x2))] [.int (zi s4), .int (zi s3), .int (zi s2), .int (zi s1), .ref (z_ad (z_g C) 48)] := by
  unfold f_X0_addFillerCut_b163 at h
  refine z_iload_n hx 0 dX0_addFillerCut_163 rfl ?_
  obtain ⟨⟨⟩, σ1, h164, h⟩ := z_bind_some h
  refine z_callv hx (As := [.int (zi s1), .int (zi s2), .int (zi s3), .int (zi s4), .int (zi x2)]) (k := 48) (met_X0_addCut (z_l C) (z_g C) (z_ok_sd hx) h164) (z_lt0 (z_ok_sd hx) (by decide)) (z_kb48 (z_ok_sd hx) _) rfl rfl cv_X0_85 (z_room hR ⟨Nat.le_of_ble_eq_true rfl, Nat.le_of_ble_eq_true rfl⟩) ⟨rfl, rfl⟩ rfl rfl (Nat.le_of_ble_eq_true rfl) dX0_addFillerCut_164 ?_
  cases h
  exact z_vret hx hq dX0_addFillerCut_167

theorem w_X0_addFillerCut_b158 {C : zC} (hx : z_ok C cX0_addFillerCut RX0 0) (hn : z_nL C = 13) (hR : z_R C = rm_X0_addFillerCut) {rr : Unit × zS} (hq : z_fin C none (z_QV (z_g C) rr.2)) (σ : zS) (x2 : Int) (s1 : Int) (s2 : Int) (s3 : Int) (h : f_X0_addFillerCut_b158 σ x2 s1 s2 s3 = some rr) : z_W C σ 158 [(2, .int (zi x2))] [.int (zi s3), .int (zi s2), .int (zi s1), .ref (z_ad (z_g C) 48)] := by
  unfold f_X0_addFillerCut_b158 at h
  refine z_iconst hx (n := 1) dX0_addFillerCut_158 ?_
  refine z_goto hx (tgt := 163) dX0_addFillerCut_159 (by decide) ?_
  refine z_sub [0] rfl ?_
  exact w_X0_addFillerCut_b163 hx hn hR hq σ x2 s1 s2 s3 1 h

theorem w_X0_addFillerCut_b111 {C : zC} (hx : z_ok C cX0_addFillerCut RX0 0) (hn : z_nL C = 13) (hR : z_R C = rm_X0_addFillerCut) {rr : Unit × zS} (hq : z_fin C none (z_QV (z_g C) rr.2)) (σ : zS) (x2 : Int) (x6 : Int) (x7 : Int) (x9 : Int) (x10 : Int) (h : f_X0_addFillerCut_b111 σ x2 x6 x7 x9 x10 = some rr) : z_W C σ 111 [(0, .ref (z_ad (z_g C) 48)), (1, .ref (z_ad (z_g C) 0)), (2, .int (zi x2)), (6, .int (zi x6)), (7, .int (zi x7)), (9, .int (zi x9)), (10, .int (zi x10))] [] := by
  unfold f_X0_addFillerCut_b111 at h
  refine z_iload hx 5 dX0_addFillerCut_111 rfl ?_
  refine z_iload hx 3 dX0_addFillerCut_113 rfl ?_
  refine z_isub hx dX0_addFillerCut_115 ?_
  refine z_aload_n hx 1 dX0_addFillerCut_116 rfl ?_
  refine gf_X2_settings hx wf_X0_79 (show 0 < 6 by decide) dX0_addFillerCut_117 ?_
  refine z_iconst hx (n := 4) dX0_addFillerCut_120 ?_
  refine z_iald hx (n := 7) (z_lt0 (z_ok_sd hx) (by decide)) (z_ka7 (z_ok_sd hx) (show 0 < 6 by decide) _) rfl (by decide) dX0_addFillerCut_121 h (fun h => ?_)
  refine z_imul hx dX0_addFillerCut_122 ?_
  refine z_bipush hx (n := 100) dX0_addFillerCut_123 rfl ?_
  refine z_idiv hx dX0_addFillerCut_125 h (fun h => ?_)
  refine z_istore hx hn (lv' := [(11, .int (zi (((x9 - x6) * (σ 7 4)).tdiv 100))), (0, .ref (z_ad (z_g C) 48)), (1, .ref (z_ad (z_g C) 0)), (2, .int (zi x2)), (6, .int (zi x6)), (7, .int (zi x7)), (9, .int (zi x9)), (10, .int (zi x10))]) dX0_addFillerCut_126 (by decide) rfl ?_
  refine z_aload_n hx 2 dX0_addFillerCut_128 rfl ?_
  refine gf_X2_settings hx wf_X0_79 (show 0 < 6 by decide) dX0_addFillerCut_129 ?_
  refine z_iconst hx (n := 3) dX0_addFillerCut_132 ?_
  refine z_iald hx (n := 7) (z_lt0 (z_ok_sd hx) (by decide)) (z_ka7 (z_ok_sd hx) (show 0 < 6 by decide) _) rfl (by decide) dX0_addFillerCut_133 h (fun h => ?_)
  refine z_iload hx 0 dX0_addFillerCut_134 rfl ?_
  refine z_min hx wm_X0_82 wst_J9_min wi_J9 wc_J9_min (z_room hR ⟨Nat.le_of_ble_eq_true rfl, Nat.le_of_ble_eq_true rfl⟩) (Nat.le_of_ble_eq_true rfl) dX0_addFillerCut_136 h (fun h => ?_)
  refine z_istore hx hn (lv' := [(12, .int (zi (if (((x9 - x6) * (σ 7 4)).tdiv 100) < (σ 7 3) then (((x9 - x6) * (σ 7 4)).tdiv 100) else (σ 7 3)))), (11, .int (zi (((x9 - x6) * (σ 7 4)).tdiv 100))), (0, .ref (z_ad (z_g C) 48)), (1, .ref (z_ad (z_g C) 0)), (2, .int (zi x2)), (6, .int (zi x6)), (7, .int (zi x7)), (9, .int (zi x9)), (10, .int (zi x10))]) dX0_addFillerCut_139 (by decide) rfl ?_
  refine z_aload_n hx 2 dX0_addFillerCut_141 rfl ?_
  refine z_iload hx 5 dX0_addFillerCut_142 rfl ?_
  refine z_iload hx 7 dX0_addFillerCut_144 rfl ?_
  refine z_iload hx 0 dX0_addFillerCut_146 rfl ?_
  refine z_iload hx 6 dX0_addFillerCut_148 rfl ?_
  refine z_if_ne hx (tgt := 158) dX0_addFillerCut_150 (by decide) h (fun h => h) (fun hc h => ?_) (fun hc h => ?_)
  · refine z_sub [4] rfl ?_
    exact w_X0_addFillerCut_b158 hx hn hR hq σ x2 x6 x9 (if (((x9 - x6) * (σ 7 4)).tdiv 100) < (σ 7 3) then (((x9 - x6) * (σ 7 4)).tdiv 100) else (σ 7 3)) h
  · refine z_iload hx 8 dX0_addFillerCut_153 rfl ?_
    refine z_if_eq hx (tgt := 162) dX0_addFillerCut_155 (by decide) h (fun h => h) (fun hc h => ?_) (fun hc h => ?_)
    · refine z_iconst hx (n := 0) dX0_addFillerCut_162 ?_
      refine z_sub [4] rfl ?_
      exact w_X0_addFillerCut_b163 hx hn hR hq σ x2 x6 x9 (if (((x9 - x6) * (σ 7 4)).tdiv 100) < (σ 7 3) then (((x9 - x6) * (σ 7 4)).tdiv 100) else (σ 7 3)) 0 h
    · refine z_sub [4] rfl ?_
      exact w_X0_addFillerCut_b158 hx hn hR hq σ x2 x6 x9 (if (((x9 - x6) * (σ 7 4)).tdiv 100) < (σ 7 3) then (((x9 - x6) * (σ 7 4)).tdiv 100) else (σ 7 3)) h

theorem w_X0_addFillerCut_b100 {C : zC} (hx : z_ok C cX0_addFillerCut RX0 0) (hn : z_nL C = 13) (hR : z_R C = rm_X0_addFillerCut) {rr : Unit × zS} (hq : z_fin C none (z_QV (z_g C) rr.2)) (σ : zS) (x2 : Int) (x4 : Int) (x6 : Int) (x7 : Int) (x9 : Int) (s0 : Int) (h : f_X0_addFillerCut_b100 σ x2 x4 x6 x7 x9 s0 = some rr) : z_W C σ 100 [(0, .ref (z_ad (z_g C) 48)), (1, .ref (z_ad (z_g C) 0)), (2, .int (zi x2)), (4, .int (zi x4)), (6, .int (zi x6)), (7, .int (zi x7)), (9, .int (zi x9))] [.int (zi s0)] := by
  unfold f_X0_addFillerCut_b100 at h
  refine z_istore hx hn (lv' := [(10, .int (zi s0)), (0, .ref (z_ad (z_g C) 48)), (1, .ref (z_ad (z_g C) 0)), (2, .int (zi x2)), (4, .int (zi x4)), (6, .int (zi x6)), (7, .int (zi x7)), (9, .int (zi x9))]) dX0_addFillerCut_100 (by decide) rfl ?_
  refine z_iload hx 0 dX0_addFillerCut_102 rfl ?_
  refine z_if_eq hx (tgt := 111) dX0_addFillerCut_104 (by decide) h (fun h => h) (fun hc h => ?_) (fun hc h => ?_)
  · refine z_sub [1, 2, 3, 5, 6, 7, 0] rfl ?_
    exact w_X0_addFillerCut_b111 hx hn hR hq σ x2 x6 x7 x9 s0 h
  · refine z_iload hx 4 dX0_addFillerCut_107 rfl ?_
    refine z_istore hx hn (lv' := [(9, .int (zi x4)), (10, .int (zi s0)), (0, .ref (z_ad (z_g C) 48)), (1, .ref (z_ad (z_g C) 0)), (2, .int (zi x2)), (4, .int (zi x4)), (6, .int (zi x6)), (7, .int (zi x7))]) dX0_addFillerCut_109 (by decide) rfl ?_
    refine z_sub [2, 3, 4, 6, 7, 0, 1] rfl ?_
    exact w_X0_addFillerCut_b111 hx hn hR hq σ x2 x6 x7 x4 s0 h

theorem w_X0_addFillerCut_b67 {C : zC} (hx : z_ok C cX0_addFillerCut RX0 0) (hn : z_nL C = 13) (hR : z_R C = rm_X0_addFillerCut) {rr : Unit × zS} (hq : z_fin C none (z_QV (z_g C) rr.2)) (σ : zS) (x2 : Int) (x3 : Int) (x4 : Int) (x6 : Int) (x7 : Int) (h : f_X0_addFillerCut_b67 σ x2 x3 x4 x6 x7 = some rr) : z_W C σ 67 [(0, .ref (z_ad (z_g C) 48)), (1, .ref (z_ad (z_g C) 0)), (2, .int (zi x2)), (3, .int (zi x3)), (4, .int (zi x4)), (6, .int (zi x6)), (7, .int (zi x7))] [] := by
  unfold f_X0_addFillerCut_b67 at h
  refine z_aload_n hx 1 dX0_addFillerCut_67 rfl ?_
  refine z_iload_n hx 2 dX0_addFillerCut_68 rfl ?_
  obtain ⟨r2, σ1, h69, h⟩ := z_bind_some h
  refine z_calli hx (As := [.int (zi x2)]) (k := 0) (met_X2_firstOfMarkAfter (z_l C) (z_g C) (z_ok_sd hx) (show 0 < 6 by decide) h69) (z_lt0 (z_ok_sd hx) (by decide)) (z_ka0 (z_ok_sd hx) (show 0 < 6 by decide) _) rfl rfl cv_X0_76 (z_room hR ⟨Nat.le_of_ble_eq_true rfl, Nat.le_of_ble_eq_true rfl⟩) ⟨rfl, rfl⟩ rfl rfl (Nat.le_of_ble_eq_true rfl) dX0_addFillerCut_69 ?_
  refine z_istore hx hn (lv' := [(8, .int (zi r2)), (0, .ref (z_ad (z_g C) 48)), (1, .ref (z_ad (z_g C) 0)), (2, .int (zi x2)), (3, .int (zi x3)), (4, .int (zi x4)), (6, .int (zi x6)), (7, .int (zi x7))]) dX0_addFillerCut_72 (by decide) rfl ?_
  refine z_aload_n hx 2 dX0_addFillerCut_74 rfl ?_
  refine z_iload hx 5 dX0_addFillerCut_75 rfl ?_
  refine z_iload_n hx 4 dX0_addFillerCut_77 rfl ?_
  refine z_iload hx 6 dX0_addFillerCut_78 rfl ?_
  refine z_iconst hx (n := 1) dX0_addFillerCut_80 ?_
  refine z_iadd hx dX0_addFillerCut_81 ?_
  refine z_iload hx 0 dX0_addFillerCut_82 rfl ?_
  obtain ⟨r4, σ3, h84, h⟩ := z_bind_some h
  refine z_calli hx (As := [.int (zi x4), .int (zi x3), .int (zi (x6 + 1)), .int (zi r2)]) (k := 0) (met_X2_nearestQuietSeam (z_l C) (z_g C) (z_ok_sd hx) (show 0 < 6 by decide) h84) (z_lt0 (z_ok_sd hx) (by decide)) (z_ka0 (z_ok_sd hx) (show 0 < 6 by decide) _) rfl rfl cv_X0_72 (z_room hR ⟨Nat.le_of_ble_eq_true rfl, Nat.le_of_ble_eq_true rfl⟩) ⟨rfl, rfl⟩ rfl rfl (Nat.le_of_ble_eq_true rfl) dX0_addFillerCut_84 ?_
  refine z_istore hx hn (lv' := [(9, .int (zi r4)), (8, .int (zi r2)), (0, .ref (z_ad (z_g C) 48)), (1, .ref (z_ad (z_g C) 0)), (2, .int (zi x2)), (3, .int (zi x3)), (4, .int (zi x4)), (6, .int (zi x6)), (7, .int (zi x7))]) dX0_addFillerCut_87 (by decide) rfl ?_
  refine z_iload hx 0 dX0_addFillerCut_89 rfl ?_
  refine z_iconst hx (n := (-1)) dX0_addFillerCut_91 ?_
  refine z_icmp_ne hx (tgt := 99) dX0_addFillerCut_92 (by decide) h (fun h => ⟨h, by decide⟩) (fun hc h => ?_) (fun hc h => ?_)
  · refine z_iconst hx (n := 0) dX0_addFillerCut_99 ?_
    refine z_sub [2, 3, 4, 6, 7, 8, 0] rfl ?_
    exact w_X0_addFillerCut_b100 hx hn hR hq σ3 x2 x4 x6 x7 r4 0 h
  · refine z_iconst hx (n := 1) dX0_addFillerCut_95 ?_
    refine z_goto hx (tgt := 100) dX0_addFillerCut_96 (by decide) ?_
    refine z_sub [2, 3, 4, 6, 7, 8, 0] rfl ?_
    exact w_X0_addFillerCut_b100 hx hn hR hq σ3 x2 x4 x6 x7 r4 1 h

theorem w_X0_addFillerCut_b52 {C : zC} (hx : z_ok C cX0_addFillerCut RX0 0) (hn : z_nL C = 13) (hR : z_R C = rm_X0_addFillerCut) {rr : Unit × zS} (hq : z_fin C none (z_QV (z_g C) rr.2)) (σ : zS) (x2 : Int) (x3 : Int) (x4 : Int) (x6 : Int) (s0 : Int) (h : f_X0_addFillerCut_b52 σ x2 x3 x4 x6 s0 = some rr) : z_W C σ 52 [(0, .ref (z_ad (z_g C) 48)), (1, .ref (z_ad (z_g C) 0)), (2, .int (zi x2)), (3, .int (zi x3)), (4, .int (zi x4)), (6, .int (zi x6))] [.int (zi s0)] := by
  unfold f_X0_addFillerCut_b52 at h
  refine z_istore hx hn (lv' := [(7, .int (zi s0)), (0, .ref (z_ad (z_g C) 48)), (1, .ref (z_ad (z_g C) 0)), (2, .int (zi x2)), (3, .int (zi x3)), (4, .int (zi x4)), (6, .int (zi x6))]) dX0_addFillerCut_52 (by decide) rfl ?_
  refine z_iload hx 0 dX0_addFillerCut_54 rfl ?_
  refine z_if_eq hx (tgt := 67) dX0_addFillerCut_56 (by decide) h (fun h => h) (fun hc h => ?_) (fun hc h => ?_)
  · refine z_sub [1, 2, 3, 4, 5, 6, 0] rfl ?_
    exact w_X0_addFillerCut_b67 hx hn hR hq σ x2 x3 x4 x6 s0 h
  · refine z_aload_n hx 2 dX0_addFillerCut_59 rfl ?_
    refine gf_X2_firsts hx wf_X0_69 (show 0 < 6 by decide) dX0_addFillerCut_60 ?_
    refine z_iload_n hx 3 dX0_addFillerCut_63 rfl ?_
    refine z_iald hx (n := 20) (z_lt0 (z_ok_sd hx) (by decide)) (z_ka3 (z_ok_sd hx) (show 0 < 6 by decide) _) rfl (by decide) dX0_addFillerCut_64 h (fun h => ?_)
    refine z_istore hx hn (lv' := [(6, .int (zi (σ 3 x2))), (7, .int (zi s0)), (0, .ref (z_ad (z_g C) 48)), (1, .ref (z_ad (z_g C) 0)), (2, .int (zi x2)), (3, .int (zi x3)), (4, .int (zi x4))]) dX0_addFillerCut_65 (by decide) rfl ?_
    refine z_sub [2, 3, 4, 5, 6, 0, 1] rfl ?_
    exact w_X0_addFillerCut_b67 hx hn hR hq σ x2 x3 x4 (σ 3 x2) s0 h

theorem w_X0_addFillerCut {C : zC} (hx : z_ok C cX0_addFillerCut RX0 0) (hn : z_nL C = 13) (hR : z_R C = rm_X0_addFillerCut) {rr : Unit × zS} (hq : z_fin C none (z_QV (z_g C) rr.2)) (σ : zS) (x2 : Int) (x3 : Int) (h : f_X0_addFillerCut σ x2 x3 = some rr) : z_W C σ 0 [(0, .ref (z_ad (z_g C) 48)), (1, .ref (z_ad (z_g C) 0)), (2, .int (zi x2)), (3, .int (zi x3))] [] := by
  unfold f_X0_addFillerCut at h
  refine z_aload_n hx 1 dX0_addFillerCut_0 rfl ?_
  refine gf_X2_ends hx wf_X0_54 (show 0 < 6 by decide) dX0_addFillerCut_1 ?_
  refine z_iload_n hx 2 dX0_addFillerCut_4 rfl ?_
  refine z_iald hx (n := 20) (z_lt0 (z_ok_sd hx) (by decide)) (z_ka4 (z_ok_sd hx) (show 0 < 6 by decide) _) rfl (by decide) dX0_addFillerCut_5 h (fun h => ?_)
  refine z_istore hx hn (lv' := [(4, .int (zi (σ 4 x2))), (0, .ref (z_ad (z_g C) 48)), (1, .ref (z_ad (z_g C) 0)), (2, .int (zi x2)), (3, .int (zi x3))]) dX0_addFillerCut_6 (by decide) rfl ?_
  refine z_aload_n hx 1 dX0_addFillerCut_8 rfl ?_
  obtain ⟨r2, σ1, h9, h⟩ := z_bind_some h
  refine z_calli hx (As := []) (k := 48) (met_X0_endOfLastCut (z_l C) (z_g C) (z_ok_sd hx) h9) (z_lt0 (z_ok_sd hx) (by decide)) (z_kb48 (z_ok_sd hx) _) rfl rfl cv_X0_55 (z_room hR ⟨Nat.le_of_ble_eq_true rfl, Nat.le_of_ble_eq_true rfl⟩) ⟨rfl, rfl⟩ rfl rfl (Nat.le_of_ble_eq_true rfl) dX0_addFillerCut_9 ?_
  refine z_aload_n hx 2 dX0_addFillerCut_12 rfl ?_
  refine z_iload_n hx 3 dX0_addFillerCut_13 rfl ?_
  obtain ⟨r4, σ3, h14, h⟩ := z_bind_some h
  refine z_calli hx (As := [.int (zi x2)]) (k := 0) (met_X2_endOfMarkBefore (z_l C) (z_g C) (z_ok_sd hx) (show 0 < 6 by decide) h14) (z_lt0 (z_ok_sd hx) (by decide)) (z_ka0 (z_ok_sd hx) (show 0 < 6 by decide) _) rfl rfl cv_X0_59 (z_room hR ⟨Nat.le_of_ble_eq_true rfl, Nat.le_of_ble_eq_true rfl⟩) ⟨rfl, rfl⟩ rfl rfl (Nat.le_of_ble_eq_true rfl) dX0_addFillerCut_14 ?_
  refine z_max hx wm_X0_63 wst_J9_max wi_J9 wc_J9_max (z_room hR ⟨Nat.le_of_ble_eq_true rfl, Nat.le_of_ble_eq_true rfl⟩) (Nat.le_of_ble_eq_true rfl) dX0_addFillerCut_17 h (fun h => ?_)
  refine z_istore hx hn (lv' := [(5, .int (zi (if r2 < r4 then r4 else r2))), (4, .int (zi (σ 4 x2))), (0, .ref (z_ad (z_g C) 48)), (1, .ref (z_ad (z_g C) 0)), (2, .int (zi x2)), (3, .int (zi x3))]) dX0_addFillerCut_20 (by decide) rfl ?_
  refine z_aload_n hx 3 dX0_addFillerCut_22 rfl ?_
  refine z_aload_n hx 3 dX0_addFillerCut_23 rfl ?_
  refine gf_X2_firsts hx wf_X0_69 (show 0 < 6 by decide) dX0_addFillerCut_24 ?_
  refine z_iload_n hx 4 dX0_addFillerCut_27 rfl ?_
  refine z_iald hx (n := 20) (z_lt0 (z_ok_sd hx) (by decide)) (z_ka3 (z_ok_sd hx) (show 0 < 6 by decide) _) rfl (by decide) dX0_addFillerCut_28 h (fun h => ?_)
  refine z_iload_n hx 5 dX0_addFillerCut_29 rfl ?_
  refine z_iload hx 0 dX0_addFillerCut_30 rfl ?_
  refine z_iload hx 1 dX0_addFillerCut_32 rfl ?_
  refine z_iconst hx (n := 1) dX0_addFillerCut_34 ?_
  refine z_isub hx dX0_addFillerCut_35 ?_
  obtain ⟨r6, σ5, h36, h⟩ := z_bind_some h
  refine z_calli hx (As := [.int (zi (σ3 3 x2)), .int (zi x3), .int (zi (if r2 < r4 then r4 else r2)), .int (zi ((σ 4 x2) - 1))]) (k := 0) (met_X2_nearestQuietSeam (z_l C) (z_g C) (z_ok_sd hx) (show 0 < 6 by decide) h36) (z_lt0 (z_ok_sd hx) (by decide)) (z_ka0 (z_ok_sd hx) (show 0 < 6 by decide) _) rfl rfl cv_X0_72 (z_room hR ⟨Nat.le_of_ble_eq_true rfl, Nat.le_of_ble_eq_true rfl⟩) ⟨rfl, rfl⟩ rfl rfl (Nat.le_of_ble_eq_true rfl) dX0_addFillerCut_36 ?_
  refine z_istore hx hn (lv' := [(6, .int (zi r6)), (5, .int (zi (if r2 < r4 then r4 else r2))), (4, .int (zi (σ 4 x2))), (0, .ref (z_ad (z_g C) 48)), (1, .ref (z_ad (z_g C) 0)), (2, .int (zi x2)), (3, .int (zi x3))]) dX0_addFillerCut_39 (by decide) rfl ?_
  refine z_iload hx 0 dX0_addFillerCut_41 rfl ?_
  refine z_iconst hx (n := (-1)) dX0_addFillerCut_43 ?_
  refine z_icmp_ne hx (tgt := 51) dX0_addFillerCut_44 (by decide) h (fun h => ⟨h, by decide⟩) (fun hc h => ?_) (fun hc h => ?_)
  · refine z_iconst hx (n := 0) dX0_addFillerCut_51 ?_
    refine z_sub [3, 4, 5, 6, 2, 0] rfl ?_
    exact w_X0_addFillerCut_b52 hx hn hR hq σ5 x2 x3 (σ 4 x2) r6 0 h
  · refine z_iconst hx (n := 1) dX0_addFillerCut_47 ?_
    refine z_goto hx (tgt := 52) dX0_addFillerCut_48 (by decide) ?_
    refine z_sub [3, 4, 5, 6, 2, 0] rfl ?_
    exact w_X0_addFillerCut_b52 hx hn hR hq σ5 x2 x3 (σ 4 x2) r6 1 h

theorem met_X0_addFillerCut (l : Launch) (g : zG) (hg : g.1 = 0) {σ : zS} {x2 : Int} {x3 : Int} {rr : Unit × zS} (h : f_X0_addFillerCut σ x2 x3 = some rr) : z_Met l yX0_addFillerCut cX0_addFillerCut 13 none rm_X0_addFillerCut g [.ref (z_ad (g) 48), .ref (z_ad (g) 0), .int (zi x2), .int (zi x3)] σ (z_QV g rr.2) := by
  refine z_enter (own := RX0) (sd := 0) (lv0 := [(0, .ref (z_ad (g) 48)), (1, .ref (z_ad (g) 0)), (2, .int (zi x2)), (3, .int (zi x3))]) (by decide) rfl (Nat.le_of_ble_eq_true rfl) hg rfl (fun C hx hl hgC hR hn hq => ?_)
  subst hgC
  refine z_sub [0, 1, 2, 3] rfl ?_
  exact w_X0_addFillerCut hx hn hR hq σ x2 x3 h
theorem dX0_addBreathCut_0 : decode cX0_addBreathCut 0 = .ok (.aload_n 1, 1) := by decide +kernel
theorem dX0_addBreathCut_1 : decode cX0_addBreathCut 1 = .ok (.getfield 69, 3) := by decide +kernel
theorem dX0_addBreathCut_4 : decode cX0_addBreathCut 4 = .ok (.iload_n 2, 1) := by decide +kernel
theorem dX0_addBreathCut_5 : decode cX0_addBreathCut 5 = .ok (.iaload, 1) := by decide +kernel
theorem dX0_addBreathCut_6 : decode cX0_addBreathCut 6 = .ok (.istore_n 3, 1) := by decide +kernel
theorem dX0_addBreathCut_7 : decode cX0_addBreathCut 7 = .ok (.aload_n 1, 1) := by decide +kernel
theorem dX0_addBreathCut_8 : decode cX0_addBreathCut 8 = .ok (.getfield 54, 3) := by decide +kernel
theorem dX0_addBreathCut_11 : decode cX0_addBreathCut 11 = .ok (.iload_n 2, 1) := by decide +kernel
theorem dX0_addBreathCut_12 : decode cX0_addBreathCut 12 = .ok (.iaload, 1) := by decide +kernel
theorem dX0_addBreathCut_13 : decode cX0_addBreathCut 13 = .ok (.istore 4, 2) := by decide +kernel
theorem dX0_addBreathCut_15 : decode cX0_addBreathCut 15 = .ok (.aload_n 1, 1) := by decide +kernel
theorem dX0_addBreathCut_16 : decode cX0_addBreathCut 16 = .ok (.getfield 79, 3) := by decide +kernel
theorem dX0_addBreathCut_19 : decode cX0_addBreathCut 19 = .ok (.iconst 5, 1) := by decide +kernel
theorem dX0_addBreathCut_20 : decode cX0_addBreathCut 20 = .ok (.iaload, 1) := by decide +kernel
theorem dX0_addBreathCut_21 : decode cX0_addBreathCut 21 = .ok (.istore 5, 2) := by decide +kernel
theorem dX0_addBreathCut_23 : decode cX0_addBreathCut 23 = .ok (.iload 4, 2) := by decide +kernel
theorem dX0_addBreathCut_25 : decode cX0_addBreathCut 25 = .ok (.iload_n 3, 1) := by decide +kernel
theorem dX0_addBreathCut_26 : decode cX0_addBreathCut 26 = .ok (.isub, 1) := by decide +kernel
theorem dX0_addBreathCut_27 : decode cX0_addBreathCut 27 = .ok (.aload_n 1, 1) := by decide +kernel
theorem dX0_addBreathCut_28 : decode cX0_addBreathCut 28 = .ok (.getfield 79, 3) := by decide +kernel
theorem dX0_addBreathCut_31 : decode cX0_addBreathCut 31 = .ok (.bipush 6, 2) := by decide +kernel
theorem dX0_addBreathCut_33 : decode cX0_addBreathCut 33 = .ok (.iaload, 1) := by decide +kernel
theorem dX0_addBreathCut_34 : decode cX0_addBreathCut 34 = .ok (.if_icmp .ge 16, 3) := by decide +kernel
theorem dX0_addBreathCut_37 : decode cX0_addBreathCut 37 = .ok (.aload_n 0, 1) := by decide +kernel
theorem dX0_addBreathCut_38 : decode cX0_addBreathCut 38 = .ok (.iload_n 3, 1) := by decide +kernel
theorem dX0_addBreathCut_39 : decode cX0_addBreathCut 39 = .ok (.iload 4, 2) := by decide +kernel
theorem dX0_addBreathCut_41 : decode cX0_addBreathCut 41 = .ok (.iconst 0, 1) := by decide +kernel
theorem dX0_addBreathCut_42 : decode cX0_addBreathCut 42 = .ok (.iconst 0, 1) := by decide +kernel
theorem dX0_addBreathCut_43 : decode cX0_addBreathCut 43 = .ok (.iload_n 2, 1) := by decide +kernel
theorem dX0_addBreathCut_44 : decode cX0_addBreathCut 44 = .ok (.invokevirtual 85, 3) := by decide +kernel
theorem dX0_addBreathCut_47 : decode cX0_addBreathCut 47 = .ok (.goto 34, 3) := by decide +kernel
theorem dX0_addBreathCut_50 : decode cX0_addBreathCut 50 = .ok (.iload 4, 2) := by decide +kernel
theorem dX0_addBreathCut_52 : decode cX0_addBreathCut 52 = .ok (.iload_n 3, 1) := by decide +kernel
theorem dX0_addBreathCut_53 : decode cX0_addBreathCut 53 = .ok (.isub, 1) := by decide +kernel
theorem dX0_addBreathCut_54 : decode cX0_addBreathCut 54 = .ok (.iload 5, 2) := by decide +kernel
theorem dX0_addBreathCut_56 : decode cX0_addBreathCut 56 = .ok (.if_icmp .le 25, 3) := by decide +kernel
theorem dX0_addBreathCut_59 : decode cX0_addBreathCut 59 = .ok (.aload_n 0, 1) := by decide +kernel
theorem dX0_addBreathCut_60 : decode cX0_addBreathCut 60 = .ok (.iload_n 3, 1) := by decide +kernel
theorem dX0_addBreathCut_61 : decode cX0_addBreathCut 61 = .ok (.iload 5, 2) := by decide +kernel
theorem dX0_addBreathCut_63 : decode cX0_addBreathCut 63 = .ok (.iconst 1, 1) := by decide +kernel
theorem dX0_addBreathCut_64 : decode cX0_addBreathCut 64 = .ok (.iadd, 1) := by decide +kernel
theorem dX0_addBreathCut_65 : decode cX0_addBreathCut 65 = .ok (.iconst 2, 1) := by decide +kernel
theorem dX0_addBreathCut_66 : decode cX0_addBreathCut 66 = .ok (.idiv, 1) := by decide +kernel
theorem dX0_addBreathCut_67 : decode cX0_addBreathCut 67 = .ok (.iadd, 1) := by decide +kernel
theorem dX0_addBreathCut_68 : decode cX0_addBreathCut 68 = .ok (.iload 4, 2) := by decide +kernel
theorem dX0_addBreathCut_70 : decode cX0_addBreathCut 70 = .ok (.iload 5, 2) := by decide +kernel
theorem dX0_addBreathCut_72 : decode cX0_addBreathCut 72 = .ok (.iconst 2, 1) := by decide +kernel
theorem dX0_addBreathCut_73 : decode cX0_addBreathCut 73 = .ok (.idiv, 1) := by decide +kernel
theorem dX0_addBreathCut_74 : decode cX0_addBreathCut 74 = .ok (.isub, 1) := by decide +kernel
theorem dX0_addBreathCut_75 : decode cX0_addBreathCut 75 = .ok (.iconst 0, 1) := by decide +kernel
theorem dX0_addBreathCut_76 : decode cX0_addBreathCut 76 = .ok (.iconst 0, 1) := by decide +kernel
theorem dX0_addBreathCut_77 : decode cX0_addBreathCut 77 = .ok (.iload_n 2, 1) := by decide +kernel
theorem dX0_addBreathCut_78 : decode cX0_addBreathCut 78 = .ok (.invokevirtual 85, 3) := by decide +kernel
theorem dX0_addBreathCut_81 : decode cX0_addBreathCut 81 = .ok (.return_, 1) := by decide +kernel
abbrev rm_X0_addBreathCut : Room := { frames := 1, cells := 0, slots := 0, locals := 25 }
theorem w_X0_addBreathCut_b81 {C : zC} (hx : z_ok C cX0_addBreathCut RX0 0) (hn : z_nL C = 6) (hR : z_R C = rm_X0_addBreathCut) {rr : Unit × zS} (hq : z_fin C none (z_QV (z_g C) rr.2)) (σ : zS) (h : f_X0_addBreathCut_b81 σ = some rr) : z_W C σ 81 [] [] := by
  unfold f_X0_addBreathCut_b81 at h
  cases h
  exact z_vret hx hq dX0_addBreathCut_81

theorem w_X0_addBreathCut {C : zC} (hx : z_ok C cX0_addBreathCut RX0 0) (hn : z_nL C = 6) (hR : z_R C = rm_X0_addBreathCut) {rr : Unit × zS} (hq : z_fin C none (z_QV (z_g C) rr.2)) (σ : zS) (x2 : Int) (h : f_X0_addBreathCut σ x2 = some rr) : z_W C σ 0 [(0, .ref (z_ad (z_g C) 48)), (1, .ref (z_ad (z_g C) 0)), (2, .int (zi x2))] [] := by
  unfold f_X0_addBreathCut at h
  refine z_aload_n hx 1 dX0_addBreathCut_0 rfl ?_
  refine gf_X2_firsts hx wf_X0_69 (show 0 < 6 by decide) dX0_addBreathCut_1 ?_
  refine z_iload_n hx 2 dX0_addBreathCut_4 rfl ?_
  refine z_iald hx (n := 20) (z_lt0 (z_ok_sd hx) (by decide)) (z_ka3 (z_ok_sd hx) (show 0 < 6 by decide) _) rfl (by decide) dX0_addBreathCut_5 h (fun h => ?_)
  refine z_istore_n hx hn (lv' := [(3, .int (zi (σ 3 x2))), (0, .ref (z_ad (z_g C) 48)), (1, .ref (z_ad (z_g C) 0)), (2, .int (zi x2))]) dX0_addBreathCut_6 (by decide) rfl ?_
  refine z_aload_n hx 2 dX0_addBreathCut_7 rfl ?_
  refine gf_X2_ends hx wf_X0_54 (show 0 < 6 by decide) dX0_addBreathCut_8 ?_
  refine z_iload_n hx 3 dX0_addBreathCut_11 rfl ?_
  refine z_iald hx (n := 20) (z_lt0 (z_ok_sd hx) (by decide)) (z_ka4 (z_ok_sd hx) (show 0 < 6 by decide) _) rfl (by decide) dX0_addBreathCut_12 h (fun h => ?_)
  refine z_istore hx hn (lv' := [(4, .int (zi (σ 4 x2))), (3, .int (zi (σ 3 x2))), (0, .ref (z_ad (z_g C) 48)), (1, .ref (z_ad (z_g C) 0)), (2, .int (zi x2))]) dX0_addBreathCut_13 (by decide) rfl ?_
  refine z_aload_n hx 3 dX0_addBreathCut_15 rfl ?_
  refine gf_X2_settings hx wf_X0_79 (show 0 < 6 by decide) dX0_addBreathCut_16 ?_
  refine z_iconst hx (n := 5) dX0_addBreathCut_19 ?_
  refine z_iald hx (n := 7) (z_lt0 (z_ok_sd hx) (by decide)) (z_ka7 (z_ok_sd hx) (show 0 < 6 by decide) _) rfl (by decide) dX0_addBreathCut_20 h (fun h => ?_)
  refine z_istore hx hn (lv' := [(5, .int (zi (σ 7 5))), (4, .int (zi (σ 4 x2))), (3, .int (zi (σ 3 x2))), (0, .ref (z_ad (z_g C) 48)), (1, .ref (z_ad (z_g C) 0)), (2, .int (zi x2))]) dX0_addBreathCut_21 (by decide) rfl ?_
  refine z_iload hx 1 dX0_addBreathCut_23 rfl ?_
  refine z_iload_n hx 2 dX0_addBreathCut_25 rfl ?_
  refine z_isub hx dX0_addBreathCut_26 ?_
  refine z_aload_n hx 4 dX0_addBreathCut_27 rfl ?_
  refine gf_X2_settings hx wf_X0_79 (show 0 < 6 by decide) dX0_addBreathCut_28 ?_
  refine z_bipush hx (n := 6) dX0_addBreathCut_31 rfl ?_
  refine z_iald hx (n := 7) (z_lt0 (z_ok_sd hx) (by decide)) (z_ka7 (z_ok_sd hx) (show 0 < 6 by decide) _) rfl (by decide) dX0_addBreathCut_33 h (fun h => ?_)
  refine z_icmp_ge hx (tgt := 50) dX0_addBreathCut_34 (by decide) h (fun h => h) (fun hc h => ?_) (fun hc h => ?_)
  · refine z_iload hx 1 dX0_addBreathCut_50 rfl ?_
    refine z_iload_n hx 2 dX0_addBreathCut_52 rfl ?_
    refine z_isub hx dX0_addBreathCut_53 ?_
    refine z_iload hx 0 dX0_addBreathCut_54 rfl ?_
    refine z_icmp_le hx (tgt := 81) dX0_addBreathCut_56 (by decide) h (fun h => h) (fun hc h => ?_) (fun hc h => ?_)
    · refine z_sub [] rfl ?_
      exact w_X0_addBreathCut_b81 hx hn hR hq σ h
    · refine z_aload_n hx 3 dX0_addBreathCut_59 rfl ?_
      refine z_iload_n hx 2 dX0_addBreathCut_60 rfl ?_
      refine z_iload hx 0 dX0_addBreathCut_61 rfl ?_
      refine z_iconst hx (n := 1) dX0_addBreathCut_63 ?_
      refine z_iadd hx dX0_addBreathCut_64 ?_
      refine z_iconst hx (n := 2) dX0_addBreathCut_65 ?_
      refine z_idiv hx dX0_addBreathCut_66 h (fun h => ?_)
      refine z_iadd hx dX0_addBreathCut_67 ?_
      refine z_iload hx 1 dX0_addBreathCut_68 rfl ?_
      refine z_iload hx 0 dX0_addBreathCut_70 rfl ?_
      refine z_iconst hx (n := 2) dX0_addBreathCut_72 ?_
      refine z_idiv hx dX0_addBreathCut_73 h (fun h => ?_)
      refine z_isub hx dX0_addBreathCut_74 ?_
      refine z_iconst hx (n := 0) dX0_addBreathCut_75 ?_
      refine z_iconst hx (n := 0) dX0_addBreathCut_76 ?_
      refine z_iload_n hx 5 dX0_addBreathCut_77 rfl ?_
      obtain ⟨⟨⟩, σ1, h78, h⟩ := z_bind_some h
      refine z_callv hx (As := [.int (zi ((σ 3 x2) + (((σ 7 5) + 1).tdiv 2))), .int (zi ((σ 4 x2) - ((σ 7 5).tdiv 2))), .int (zi 0), .int (zi 0), .int (zi x2)]) (k := 48) (met_X0_addCut (z_l C) (z_g C) (z_ok_sd hx) h78) (z_lt0 (z_ok_sd hx) (by decide)) (z_kb48 (z_ok_sd hx) _) rfl rfl cv_X0_85 (z_room hR ⟨Nat.le_of_ble_eq_true rfl, Nat.le_of_ble_eq_true rfl⟩) ⟨rfl, rfl⟩ rfl rfl (Nat.le_of_ble_eq_true rfl) dX0_addBreathCut_78 ?_
      refine z_sub [] rfl ?_
      exact w_X0_addBreathCut_b81 hx hn hR hq σ1 h
  · refine z_aload_n hx 3 dX0_addBreathCut_37 rfl ?_
    refine z_iload_n hx 2 dX0_addBreathCut_38 rfl ?_
    refine z_iload hx 1 dX0_addBreathCut_39 rfl ?_
    refine z_iconst hx (n := 0) dX0_addBreathCut_41 ?_
    refine z_iconst hx (n := 0) dX0_addBreathCut_42 ?_
    refine z_iload_n hx 5 dX0_addBreathCut_43 rfl ?_
    obtain ⟨⟨⟩, σ2, h44, h⟩ := z_bind_some h
    refine z_callv hx (As := [.int (zi (σ 3 x2)), .int (zi (σ 4 x2)), .int (zi 0), .int (zi 0), .int (zi x2)]) (k := 48) (met_X0_addCut (z_l C) (z_g C) (z_ok_sd hx) h44) (z_lt0 (z_ok_sd hx) (by decide)) (z_kb48 (z_ok_sd hx) _) rfl rfl cv_X0_85 (z_room hR ⟨Nat.le_of_ble_eq_true rfl, Nat.le_of_ble_eq_true rfl⟩) ⟨rfl, rfl⟩ rfl rfl (Nat.le_of_ble_eq_true rfl) dX0_addBreathCut_44 ?_
    refine z_goto hx (tgt := 81) dX0_addBreathCut_47 (by decide) ?_
    refine z_sub [] rfl ?_
    exact w_X0_addBreathCut_b81 hx hn hR hq σ2 h

theorem met_X0_addBreathCut (l : Launch) (g : zG) (hg : g.1 = 0) {σ : zS} {x2 : Int} {rr : Unit × zS} (h : f_X0_addBreathCut σ x2 = some rr) : z_Met l yX0_addBreathCut cX0_addBreathCut 6 none rm_X0_addBreathCut g [.ref (z_ad (g) 48), .ref (z_ad (g) 0), .int (zi x2)] σ (z_QV g rr.2) := by
  refine z_enter (own := RX0) (sd := 0) (lv0 := [(0, .ref (z_ad (g) 48)), (1, .ref (z_ad (g) 0)), (2, .int (zi x2))]) (by decide) rfl (Nat.le_of_ble_eq_true rfl) hg rfl (fun C hx hl hgC hR hn hq => ?_)
  subst hgC
  refine z_sub [0, 1, 2] rfl ?_
  exact w_X0_addBreathCut hx hn hR hq σ x2 h
theorem dX0_find_0 : decode cX0_find 0 = .ok (.aload_n 0, 1) := by decide +kernel
theorem dX0_find_1 : decode cX0_find 1 = .ok (.iconst 0, 1) := by decide +kernel
theorem dX0_find_2 : decode cX0_find 2 = .ok (.putfield 28, 3) := by decide +kernel
theorem dX0_find_5 : decode cX0_find 5 = .ok (.iconst 0, 1) := by decide +kernel
theorem dX0_find_6 : decode cX0_find 6 = .ok (.istore 4, 2) := by decide +kernel
theorem dX0_find_8 : decode cX0_find 8 = .ok (.iload 4, 2) := by decide +kernel
theorem dX0_find_10 : decode cX0_find 10 = .ok (.aload_n 1, 1) := by decide +kernel
theorem dX0_find_11 : decode cX0_find 11 = .ok (.getfield 32, 3) := by decide +kernel
theorem dX0_find_14 : decode cX0_find 14 = .ok (.if_icmp .ge 72, 3) := by decide +kernel
theorem dX0_find_17 : decode cX0_find 17 = .ok (.aload_n 1, 1) := by decide +kernel
theorem dX0_find_18 : decode cX0_find 18 = .ok (.getfield 37, 3) := by decide +kernel
theorem dX0_find_21 : decode cX0_find 21 = .ok (.iload 4, 2) := by decide +kernel
theorem dX0_find_23 : decode cX0_find 23 = .ok (.baload, 1) := by decide +kernel
theorem dX0_find_24 : decode cX0_find 24 = .ok (.ifCond .eq 6, 3) := by decide +kernel
theorem dX0_find_27 : decode cX0_find 27 = .ok (.goto 53, 3) := by decide +kernel
theorem dX0_find_30 : decode cX0_find 30 = .ok (.aload_n 1, 1) := by decide +kernel
theorem dX0_find_31 : decode cX0_find 31 = .ok (.getfield 40, 3) := by decide +kernel
theorem dX0_find_34 : decode cX0_find 34 = .ok (.iload 4, 2) := by decide +kernel
theorem dX0_find_36 : decode cX0_find 36 = .ok (.iaload, 1) := by decide +kernel
theorem dX0_find_37 : decode cX0_find 37 = .ok (.ifCond .ne 25, 3) := by decide +kernel
theorem dX0_find_40 : decode cX0_find 40 = .ok (.aload_n 1, 1) := by decide +kernel
theorem dX0_find_41 : decode cX0_find 41 = .ok (.getfield 43, 3) := by decide +kernel
theorem dX0_find_44 : decode cX0_find 44 = .ok (.iload 4, 2) := by decide +kernel
theorem dX0_find_46 : decode cX0_find 46 = .ok (.iaload, 1) := by decide +kernel
theorem dX0_find_47 : decode cX0_find 47 = .ok (.iload_n 2, 1) := by decide +kernel
theorem dX0_find_48 : decode cX0_find 48 = .ok (.if_icmp .gt 14, 3) := by decide +kernel
theorem dX0_find_51 : decode cX0_find 51 = .ok (.aload_n 0, 1) := by decide +kernel
theorem dX0_find_52 : decode cX0_find 52 = .ok (.aload_n 1, 1) := by decide +kernel
theorem dX0_find_53 : decode cX0_find 53 = .ok (.iload 4, 2) := by decide +kernel
theorem dX0_find_55 : decode cX0_find 55 = .ok (.iload_n 3, 1) := by decide +kernel
theorem dX0_find_56 : decode cX0_find 56 = .ok (.invokevirtual 46, 3) := by decide +kernel
theorem dX0_find_59 : decode cX0_find 59 = .ok (.goto 21, 3) := by decide +kernel
theorem dX0_find_62 : decode cX0_find 62 = .ok (.aload_n 1, 1) := by decide +kernel
theorem dX0_find_63 : decode cX0_find 63 = .ok (.getfield 40, 3) := by decide +kernel
theorem dX0_find_66 : decode cX0_find 66 = .ok (.iload 4, 2) := by decide +kernel
theorem dX0_find_68 : decode cX0_find 68 = .ok (.iaload, 1) := by decide +kernel
theorem dX0_find_69 : decode cX0_find 69 = .ok (.iconst 1, 1) := by decide +kernel
theorem dX0_find_70 : decode cX0_find 70 = .ok (.if_icmp .ne 10, 3) := by decide +kernel
theorem dX0_find_73 : decode cX0_find 73 = .ok (.aload_n 0, 1) := by decide +kernel
theorem dX0_find_74 : decode cX0_find 74 = .ok (.aload_n 1, 1) := by decide +kernel
theorem dX0_find_75 : decode cX0_find 75 = .ok (.iload 4, 2) := by decide +kernel
theorem dX0_find_77 : decode cX0_find 77 = .ok (.invokevirtual 50, 3) := by decide +kernel
theorem dX0_find_80 : decode cX0_find 80 = .ok (.iinc 4 1, 3) := by decide +kernel
theorem dX0_find_83 : decode cX0_find 83 = .ok (.goto (-75), 3) := by decide +kernel
theorem dX0_find_86 : decode cX0_find 86 = .ok (.return_, 1) := by decide +kernel
abbrev rm_X0_find : Room := { frames := 4, cells := 0, slots := 0, locals := 102 }
theorem w_X0_find_b80 {C : zC} (hx : z_ok C cX0_find RX0 0) (hn : z_nL C = 5) (hR : z_R C = rm_X0_find) {rr : Unit × zS} (hq : z_fin C none (z_QV (z_g C) rr.2)) {K8 : zS → Int → Int → Int → Option (Unit × zS)} (hK8 : ∀ (σ : zS) (x2 : Int) (x3 : Int) (x4 : Int) , K8 σ x2 x3 x4 = some rr → z_W C σ 8 [(0, .ref (z_ad (z_g C) 48)), (1, .ref (z_ad (z_g C) 0)), (2, .int (zi x2)), (3, .int (zi x3)), (4, .int (zi x4))] []) (σ : zS) (x2 : Int) (x3 : Int) (x4 : Int) (h : f_X0_find_b80 K8 σ x2 x3 x4 = some rr) : z_W C σ 80 [(0, .ref (z_ad (z_g C) 48)), (1, .ref (z_ad (z_g C) 0)), (2, .int (zi x2)), (3, .int (zi x3)), (4, .int (zi x4))] [] := by
  unfold f_X0_find_b80 at h
  refine z_iinc hx hn 4 (lv' := [(4, .int (zi (x4 + 1))), (0, .ref (z_ad (z_g C) 48)), (1, .ref (z_ad (z_g C) 0)), (2, .int (zi x2)), (3, .int (zi x3))]) dX0_find_80 rfl (by decide) rfl ?_
  refine z_goto hx (tgt := 8) dX0_find_83 (by decide) ?_
  refine z_sub [1, 2, 3, 4, 0] rfl ?_
  exact hK8 σ x2 x3 (x4 + 1) h

theorem w_X0_find_b62 {C : zC} (hx : z_ok C cX0_find RX0 0) (hn : z_nL C = 5) (hR : z_R C = rm_X0_find) {rr : Unit × zS} (hq : z_fin C none (z_QV (z_g C) rr.2)) {K8 : zS → Int → Int → Int → Option (Unit × zS)} (hK8 : ∀ (σ : zS) (x2 : Int) (x3 : Int) (x4 : Int) , K8 σ x2 x3 x4 = some rr → z_W C σ 8 [(0, .ref (z_ad (z_g C) 48)), (1, .ref (z_ad (z_g C) 0)), (2, .int (zi x2)), (3, .int (zi x3)), (4, .int (zi x4))] []) (σ : zS) (x2 : Int) (x3 : Int) (x4 : Int) (h : f_X0_find_b62 K8 σ x2 x3 x4 = some rr) : z_W C σ 62 [(0, .ref (z_ad (z_g C) 48)), (1, .ref (z_ad (z_g C) 0)), (2, .int (zi x2)), (3, .int (zi x3)), (4, .int (zi x4))] [] := by
  unfold f_X0_find_b62 at h
  refine z_aload_n hx 1 dX0_find_62 rfl ?_
  refine gf_X2_kinds hx wf_X0_40 (show 0 < 6 by decide) dX0_find_63 ?_
  refine z_iload hx 4 dX0_find_66 rfl ?_
  refine z_iald hx (n := 20) (z_lt0 (z_ok_sd hx) (by decide)) (z_ka2 (z_ok_sd hx) (show 0 < 6 by decide) _) rfl (by decide) dX0_find_68 h (fun h => ?_)
  refine z_iconst hx (n := 1) dX0_find_69 ?_
  refine z_icmp_ne hx (tgt := 80) dX0_find_70 (by decide) h (fun h => ⟨h, by decide⟩) (fun hc h => ?_) (fun hc h => ?_)
  · refine z_sub [0, 1, 2, 3, 4] rfl ?_
    exact w_X0_find_b80 hx hn hR hq hK8 σ x2 x3 x4 h
  · refine z_aload_n hx 0 dX0_find_73 rfl ?_
    refine z_aload_n hx 1 dX0_find_74 rfl ?_
    refine z_iload hx 4 dX0_find_75 rfl ?_
    obtain ⟨⟨⟩, σ1, h77, h⟩ := z_bind_some h
    refine z_callv hx (As := [.ref (z_ad (z_g C) 0), .int (zi x4)]) (k := 48) (met_X0_addBreathCut (z_l C) (z_g C) (z_ok_sd hx) h77) (z_lt0 (z_ok_sd hx) (by decide)) (z_kb48 (z_ok_sd hx) _) rfl rfl cv_X0_50 (z_room hR ⟨Nat.le_of_ble_eq_true rfl, Nat.le_of_ble_eq_true rfl⟩) ⟨rfl, rfl⟩ rfl rfl (Nat.le_of_ble_eq_true rfl) dX0_find_77 ?_
    refine z_sub [0, 1, 2, 3, 4] rfl ?_
    exact w_X0_find_b80 hx hn hR hq hK8 σ1 x2 x3 x4 h

theorem w_X0_find_b8 {C : zC} (hx : z_ok C cX0_find RX0 0) (hn : z_nL C = 5) (hR : z_R C = rm_X0_find) {rr : Unit × zS} (hq : z_fin C none (z_QV (z_g C) rr.2)) {K8 : zS → Int → Int → Int → Option (Unit × zS)} (hK8 : ∀ (σ : zS) (x2 : Int) (x3 : Int) (x4 : Int) , K8 σ x2 x3 x4 = some rr → z_W C σ 8 [(0, .ref (z_ad (z_g C) 48)), (1, .ref (z_ad (z_g C) 0)), (2, .int (zi x2)), (3, .int (zi x3)), (4, .int (zi x4))] []) (σ : zS) (x2 : Int) (x3 : Int) (x4 : Int) (h : f_X0_find_b8 K8 σ x2 x3 x4 = some rr) : z_W C σ 8 [(0, .ref (z_ad (z_g C) 48)), (1, .ref (z_ad (z_g C) 0)), (2, .int (zi x2)), (3, .int (zi x3)), (4, .int (zi x4))] [] := by
  unfold f_X0_find_b8 at h
  refine z_iload hx 4 dX0_find_8 rfl ?_
  refine z_aload_n hx 1 dX0_find_10 rfl ?_
  refine gf_X2_marks hx wf_X0_32 (show 0 < 6 by decide) dX0_find_11 ?_
  refine z_icmp_ge hx (tgt := 86) dX0_find_14 (by decide) h (fun h => h) (fun hc h => ?_) (fun hc h => ?_)
  · cases h
    exact z_vret hx hq dX0_find_86
  · refine z_aload_n hx 1 dX0_find_17 rfl ?_
    refine gf_X2_held hx wf_X0_37 (show 0 < 6 by decide) dX0_find_18 ?_
    refine z_iload hx 4 dX0_find_21 rfl ?_
    refine z_zald hx (n := 20) (z_lt0 (z_ok_sd hx) (by decide)) (z_ka6 (z_ok_sd hx) (show 0 < 6 by decide) _) rfl (by decide) dX0_find_23 h (fun h => ?_)
    refine z_if_eq hx (tgt := 30) dX0_find_24 (by decide) h (fun h => h) (fun hc h => ?_) (fun hc h => ?_)
    · refine z_aload_n hx 1 dX0_find_30 rfl ?_
      refine gf_X2_kinds hx wf_X0_40 (show 0 < 6 by decide) dX0_find_31 ?_
      refine z_iload hx 4 dX0_find_34 rfl ?_
      refine z_iald hx (n := 20) (z_lt0 (z_ok_sd hx) (by decide)) (z_ka2 (z_ok_sd hx) (show 0 < 6 by decide) _) rfl (by decide) dX0_find_36 h (fun h => ?_)
      refine z_if_ne hx (tgt := 62) dX0_find_37 (by decide) h (fun h => h) (fun hc h => ?_) (fun hc h => ?_)
      · refine z_sub [0, 1, 2, 3, 4] rfl ?_
        exact w_X0_find_b62 hx hn hR hq hK8 σ x2 x3 x4 h
      · refine z_aload_n hx 1 dX0_find_40 rfl ?_
        refine gf_X2_doubts hx wf_X0_43 (show 0 < 6 by decide) dX0_find_41 ?_
        refine z_iload hx 4 dX0_find_44 rfl ?_
        refine z_iald hx (n := 20) (z_lt0 (z_ok_sd hx) (by decide)) (z_ka5 (z_ok_sd hx) (show 0 < 6 by decide) _) rfl (by decide) dX0_find_46 h (fun h => ?_)
        refine z_iload_n hx 2 dX0_find_47 rfl ?_
        refine z_icmp_gt hx (tgt := 62) dX0_find_48 (by decide) h (fun h => h) (fun hc h => ?_) (fun hc h => ?_)
        · refine z_sub [0, 1, 2, 3, 4] rfl ?_
          exact w_X0_find_b62 hx hn hR hq hK8 σ x2 x3 x4 h
        · refine z_aload_n hx 0 dX0_find_51 rfl ?_
          refine z_aload_n hx 1 dX0_find_52 rfl ?_
          refine z_iload hx 4 dX0_find_53 rfl ?_
          refine z_iload_n hx 3 dX0_find_55 rfl ?_
          obtain ⟨⟨⟩, σ1, h56, h⟩ := z_bind_some h
          refine z_callv hx (As := [.ref (z_ad (z_g C) 0), .int (zi x4), .int (zi x3)]) (k := 48) (met_X0_addFillerCut (z_l C) (z_g C) (z_ok_sd hx) h56) (z_lt0 (z_ok_sd hx) (by decide)) (z_kb48 (z_ok_sd hx) _) rfl rfl cv_X0_46 (z_room hR ⟨Nat.le_of_ble_eq_true rfl, Nat.le_of_ble_eq_true rfl⟩) ⟨rfl, rfl⟩ rfl rfl (Nat.le_of_ble_eq_true rfl) dX0_find_56 ?_
          refine z_goto hx (tgt := 80) dX0_find_59 (by decide) ?_
          refine z_sub [0, 1, 2, 3, 4] rfl ?_
          exact w_X0_find_b80 hx hn hR hq hK8 σ1 x2 x3 x4 h
    · refine z_goto hx (tgt := 80) dX0_find_27 (by decide) ?_
      refine z_sub [0, 1, 2, 3, 4] rfl ?_
      exact w_X0_find_b80 hx hn hR hq hK8 σ x2 x3 x4 h

theorem w_X0_find_l8 {C : zC} (hx : z_ok C cX0_find RX0 0) (hn : z_nL C = 5) (hR : z_R C = rm_X0_find) {rr : Unit × zS} (hq : z_fin C none (z_QV (z_g C) rr.2)) : ∀ (n : Nat) (σ : zS) (x2 : Int) (x3 : Int) (x4 : Int) (_ : f_X0_find_l8 n σ x2 x3 x4 = some rr), z_W C σ 8 [(0, .ref (z_ad (z_g C) 48)), (1, .ref (z_ad (z_g C) 0)), (2, .int (zi x2)), (3, .int (zi x3)), (4, .int (zi x4))] [] := by
  intro n
  induction n with
  | zero => intro σ x2 x3 x4 h; cases h
  | succ n ih =>
    intro σ x2 x3 x4 h
    exact w_X0_find_b8 hx hn hR hq ih σ x2 x3 x4 h
theorem w_X0_find {C : zC} (hx : z_ok C cX0_find RX0 0) (hn : z_nL C = 5) (hR : z_R C = rm_X0_find) {rr : Unit × zS} (hq : z_fin C none (z_QV (z_g C) rr.2)) (σ : zS) (x2 : Int) (x3 : Int) (h : f_X0_find σ x2 x3 = some rr) : z_W C σ 0 [(0, .ref (z_ad (z_g C) 48)), (1, .ref (z_ad (z_g C) 0)), (2, .int (zi x2)), (3, .int (zi x3))] [] := by
  unfold f_X0_find at h
  refine z_aload_n hx 0 dX0_find_0 rfl ?_
  refine z_iconst hx (n := 0) dX0_find_1 ?_
  refine pf_X0_count hx wf_X0_28 dX0_find_2 h (fun σ1 h => ?_)
  refine z_iconst hx (n := 0) dX0_find_5 ?_
  refine z_istore hx hn (lv' := [(4, .int (zi 0)), (0, .ref (z_ad (z_g C) 48)), (1, .ref (z_ad (z_g C) 0)), (2, .int (zi x2)), (3, .int (zi x3))]) dX0_find_6 (by decide) rfl ?_
  refine z_sub [1, 2, 3, 4, 0] rfl ?_
  exact w_X0_find_l8 hx hn hR hq z_fuel σ1 x2 x3 0 h

theorem met_X0_find (l : Launch) (g : zG) (hg : g.1 = 0) {σ : zS} {x2 : Int} {x3 : Int} {rr : Unit × zS} (h : f_X0_find σ x2 x3 = some rr) : z_Met l yX0_find cX0_find 5 none rm_X0_find g [.ref (z_ad (g) 48), .ref (z_ad (g) 0), .int (zi x2), .int (zi x3)] σ (z_QV g rr.2) := by
  refine z_enter (own := RX0) (sd := 0) (lv0 := [(0, .ref (z_ad (g) 48)), (1, .ref (z_ad (g) 0)), (2, .int (zi x2)), (3, .int (zi x3))]) (by decide) rfl (Nat.le_of_ble_eq_true rfl) hg rfl (fun C hx hl hgC hR hn hq => ?_)
  subst hgC
  refine z_sub [0, 1, 2, 3] rfl ?_
  exact w_X0_find hx hn hR hq σ x2 x3 h
theorem dX0_cutOfMark_0 : decode cX0_cutOfMark 0 = .ok (.iconst 0, 1) := by decide +kernel
theorem dX0_cutOfMark_1 : decode cX0_cutOfMark 1 = .ok (.istore_n 2, 1) := by decide +kernel
theorem dX0_cutOfMark_2 : decode cX0_cutOfMark 2 = .ok (.iload_n 2, 1) := by decide +kernel
theorem dX0_cutOfMark_3 : decode cX0_cutOfMark 3 = .ok (.aload_n 0, 1) := by decide +kernel
theorem dX0_cutOfMark_4 : decode cX0_cutOfMark 4 = .ok (.getfield 28, 3) := by decide +kernel
theorem dX0_cutOfMark_7 : decode cX0_cutOfMark 7 = .ok (.if_icmp .ge 21, 3) := by decide +kernel
theorem dX0_cutOfMark_10 : decode cX0_cutOfMark 10 = .ok (.aload_n 0, 1) := by decide +kernel
theorem dX0_cutOfMark_11 : decode cX0_cutOfMark 11 = .ok (.getfield 25, 3) := by decide +kernel
theorem dX0_cutOfMark_14 : decode cX0_cutOfMark 14 = .ok (.iload_n 2, 1) := by decide +kernel
theorem dX0_cutOfMark_15 : decode cX0_cutOfMark 15 = .ok (.iaload, 1) := by decide +kernel
theorem dX0_cutOfMark_16 : decode cX0_cutOfMark 16 = .ok (.iload_n 1, 1) := by decide +kernel
theorem dX0_cutOfMark_17 : decode cX0_cutOfMark 17 = .ok (.if_icmp .ne 5, 3) := by decide +kernel
theorem dX0_cutOfMark_20 : decode cX0_cutOfMark 20 = .ok (.iload_n 2, 1) := by decide +kernel
theorem dX0_cutOfMark_21 : decode cX0_cutOfMark 21 = .ok (.ireturn, 1) := by decide +kernel
theorem dX0_cutOfMark_22 : decode cX0_cutOfMark 22 = .ok (.iinc 2 1, 3) := by decide +kernel
theorem dX0_cutOfMark_25 : decode cX0_cutOfMark 25 = .ok (.goto (-23), 3) := by decide +kernel
theorem dX0_cutOfMark_28 : decode cX0_cutOfMark 28 = .ok (.bipush (-9), 2) := by decide +kernel
theorem dX0_cutOfMark_30 : decode cX0_cutOfMark 30 = .ok (.ireturn, 1) := by decide +kernel
abbrev rm_X0_cutOfMark : Room := { frames := 0, cells := 0, slots := 0, locals := 0 }
theorem w_X0_cutOfMark_b2 {C : zC} (hx : z_ok C cX0_cutOfMark RX0 0) (hn : z_nL C = 3) (hR : z_R C = rm_X0_cutOfMark) {rr : Int × zS} (hq : z_fin C (some .int) (z_QI (z_g C) rr.1 rr.2)) {K2 : zS → Int → Int → Option (Int × zS)} (hK2 : ∀ (σ : zS) (x1 : Int) (x2 : Int) , K2 σ x1 x2 = some rr → z_W C σ 2 [(0, .ref (z_ad (z_g C) 48)), (1, .int (zi x1)), (2, .int (zi x2))] []) (σ : zS) (x1 : Int) (x2 : Int) (h : f_X0_cutOfMark_b2 K2 σ x1 x2 = some rr) : z_W C σ 2 [(0, .ref (z_ad (z_g C) 48)), (1, .int (zi x1)), (2, .int (zi x2))] [] := by
  unfold f_X0_cutOfMark_b2 at h
  refine z_iload_n hx 2 dX0_cutOfMark_2 rfl ?_
  refine z_aload_n hx 0 dX0_cutOfMark_3 rfl ?_
  refine gf_X0_count hx wf_X0_28 dX0_cutOfMark_4 ?_
  refine z_icmp_ge hx (tgt := 28) dX0_cutOfMark_7 (by decide) h (fun h => h) (fun hc h => ?_) (fun hc h => ?_)
  · refine z_bipush hx (n := (-9)) dX0_cutOfMark_28 rfl ?_
    cases h
    exact z_iret hx hq dX0_cutOfMark_30
  · refine z_aload_n hx 0 dX0_cutOfMark_10 rfl ?_
    refine gf_X0_markNumbers hx wf_X0_25 dX0_cutOfMark_11 ?_
    refine z_iload_n hx 2 dX0_cutOfMark_14 rfl ?_
    refine z_iald hx (n := 20) (z_lt0 (z_ok_sd hx) (by decide)) (z_kb53 (z_ok_sd hx) _) rfl (by decide) dX0_cutOfMark_15 h (fun h => ?_)
    refine z_iload_n hx 1 dX0_cutOfMark_16 rfl ?_
    refine z_icmp_ne hx (tgt := 22) dX0_cutOfMark_17 (by decide) h (fun h => h) (fun hc h => ?_) (fun hc h => ?_)
    · refine z_iinc hx hn 2 (lv' := [(2, .int (zi (x2 + 1))), (0, .ref (z_ad (z_g C) 48)), (1, .int (zi x1))]) dX0_cutOfMark_22 rfl (by decide) rfl ?_
      refine z_goto hx (tgt := 2) dX0_cutOfMark_25 (by decide) ?_
      refine z_sub [1, 2, 0] rfl ?_
      exact hK2 σ x1 (x2 + 1) h
    · refine z_iload_n hx 2 dX0_cutOfMark_20 rfl ?_
      cases h
      exact z_iret hx hq dX0_cutOfMark_21

theorem w_X0_cutOfMark_l2 {C : zC} (hx : z_ok C cX0_cutOfMark RX0 0) (hn : z_nL C = 3) (hR : z_R C = rm_X0_cutOfMark) {rr : Int × zS} (hq : z_fin C (some .int) (z_QI (z_g C) rr.1 rr.2)) : ∀ (n : Nat) (σ : zS) (x1 : Int) (x2 : Int) (_ : f_X0_cutOfMark_l2 n σ x1 x2 = some rr), z_W C σ 2 [(0, .ref (z_ad (z_g C) 48)), (1, .int (zi x1)), (2, .int (zi x2))] [] := by
  intro n
  induction n with
  | zero => intro σ x1 x2 h; cases h
  | succ n ih =>
    intro σ x1 x2 h
    exact w_X0_cutOfMark_b2 hx hn hR hq ih σ x1 x2 h
theorem w_X0_cutOfMark {C : zC} (hx : z_ok C cX0_cutOfMark RX0 0) (hn : z_nL C = 3) (hR : z_R C = rm_X0_cutOfMark) {rr : Int × zS} (hq : z_fin C (some .int) (z_QI (z_g C) rr.1 rr.2)) (σ : zS) (x1 : Int) (h : f_X0_cutOfMark σ x1 = some rr) : z_W C σ 0 [(0, .ref (z_ad (z_g C) 48)), (1, .int (zi x1))] [] := by
  unfold f_X0_cutOfMark at h
  refine z_iconst hx (n := 0) dX0_cutOfMark_0 ?_
  refine z_istore_n hx hn (lv' := [(2, .int (zi 0)), (0, .ref (z_ad (z_g C) 48)), (1, .int (zi x1))]) dX0_cutOfMark_1 (by decide) rfl ?_
  refine z_sub [1, 2, 0] rfl ?_
  exact w_X0_cutOfMark_l2 hx hn hR hq z_fuel σ x1 0 h

theorem met_X0_cutOfMark (l : Launch) (g : zG) (hg : g.1 = 0) {σ : zS} {x1 : Int} {rr : Int × zS} (h : f_X0_cutOfMark σ x1 = some rr) : z_Met l yX0_cutOfMark cX0_cutOfMark 3 (some .int) rm_X0_cutOfMark g [.ref (z_ad (g) 48), .int (zi x1)] σ (z_QI g rr.1 rr.2) := by
  refine z_enter (own := RX0) (sd := 0) (lv0 := [(0, .ref (z_ad (g) 48)), (1, .int (zi x1))]) (by decide) rfl (Nat.le_of_ble_eq_true rfl) hg rfl (fun C hx hl hgC hR hn hq => ?_)
  subst hgC
  refine z_sub [0, 1] rfl ?_
  exact w_X0_cutOfMark hx hn hR hq σ x1 h
theorem dX0_numberOfCut_0 : decode cX0_numberOfCut 0 = .ok (.iload_n 1, 1) := by decide +kernel
theorem dX0_numberOfCut_1 : decode cX0_numberOfCut 1 = .ok (.ifCond .lt 11, 3) := by decide +kernel
theorem dX0_numberOfCut_4 : decode cX0_numberOfCut 4 = .ok (.iload_n 1, 1) := by decide +kernel
theorem dX0_numberOfCut_5 : decode cX0_numberOfCut 5 = .ok (.aload_n 0, 1) := by decide +kernel
theorem dX0_numberOfCut_6 : decode cX0_numberOfCut 6 = .ok (.getfield 28, 3) := by decide +kernel
theorem dX0_numberOfCut_9 : decode cX0_numberOfCut 9 = .ok (.if_icmp .lt 5, 3) := by decide +kernel
theorem dX0_numberOfCut_12 : decode cX0_numberOfCut 12 = .ok (.iconst (-1), 1) := by decide +kernel
theorem dX0_numberOfCut_13 : decode cX0_numberOfCut 13 = .ok (.ireturn, 1) := by decide +kernel
theorem dX0_numberOfCut_14 : decode cX0_numberOfCut 14 = .ok (.iload_n 2, 1) := by decide +kernel
theorem dX0_numberOfCut_15 : decode cX0_numberOfCut 15 = .ok (.tableswitch 76 0 4 #[33, 40, 47, 54, 69], 33) := by decide +kernel
theorem dX0_numberOfCut_48 : decode cX0_numberOfCut 48 = .ok (.aload_n 0, 1) := by decide +kernel
theorem dX0_numberOfCut_49 : decode cX0_numberOfCut 49 = .ok (.getfield 9, 3) := by decide +kernel
theorem dX0_numberOfCut_52 : decode cX0_numberOfCut 52 = .ok (.iload_n 1, 1) := by decide +kernel
theorem dX0_numberOfCut_53 : decode cX0_numberOfCut 53 = .ok (.iaload, 1) := by decide +kernel
theorem dX0_numberOfCut_54 : decode cX0_numberOfCut 54 = .ok (.ireturn, 1) := by decide +kernel
theorem dX0_numberOfCut_55 : decode cX0_numberOfCut 55 = .ok (.aload_n 0, 1) := by decide +kernel
theorem dX0_numberOfCut_56 : decode cX0_numberOfCut 56 = .ok (.getfield 15, 3) := by decide +kernel
theorem dX0_numberOfCut_59 : decode cX0_numberOfCut 59 = .ok (.iload_n 1, 1) := by decide +kernel
theorem dX0_numberOfCut_60 : decode cX0_numberOfCut 60 = .ok (.iaload, 1) := by decide +kernel
theorem dX0_numberOfCut_61 : decode cX0_numberOfCut 61 = .ok (.ireturn, 1) := by decide +kernel
theorem dX0_numberOfCut_62 : decode cX0_numberOfCut 62 = .ok (.aload_n 0, 1) := by decide +kernel
theorem dX0_numberOfCut_63 : decode cX0_numberOfCut 63 = .ok (.getfield 18, 3) := by decide +kernel
theorem dX0_numberOfCut_66 : decode cX0_numberOfCut 66 = .ok (.iload_n 1, 1) := by decide +kernel
theorem dX0_numberOfCut_67 : decode cX0_numberOfCut 67 = .ok (.iaload, 1) := by decide +kernel
theorem dX0_numberOfCut_68 : decode cX0_numberOfCut 68 = .ok (.ireturn, 1) := by decide +kernel
theorem dX0_numberOfCut_69 : decode cX0_numberOfCut 69 = .ok (.aload_n 0, 1) := by decide +kernel
theorem dX0_numberOfCut_70 : decode cX0_numberOfCut 70 = .ok (.getfield 21, 3) := by decide +kernel
theorem dX0_numberOfCut_73 : decode cX0_numberOfCut 73 = .ok (.iload_n 1, 1) := by decide +kernel
theorem dX0_numberOfCut_74 : decode cX0_numberOfCut 74 = .ok (.baload, 1) := by decide +kernel
theorem dX0_numberOfCut_75 : decode cX0_numberOfCut 75 = .ok (.ifCond .eq 7, 3) := by decide +kernel
theorem dX0_numberOfCut_78 : decode cX0_numberOfCut 78 = .ok (.iconst 1, 1) := by decide +kernel
theorem dX0_numberOfCut_79 : decode cX0_numberOfCut 79 = .ok (.goto 4, 3) := by decide +kernel
theorem dX0_numberOfCut_82 : decode cX0_numberOfCut 82 = .ok (.iconst 0, 1) := by decide +kernel
theorem dX0_numberOfCut_83 : decode cX0_numberOfCut 83 = .ok (.ireturn, 1) := by decide +kernel
theorem dX0_numberOfCut_84 : decode cX0_numberOfCut 84 = .ok (.aload_n 0, 1) := by decide +kernel
theorem dX0_numberOfCut_85 : decode cX0_numberOfCut 85 = .ok (.getfield 25, 3) := by decide +kernel
theorem dX0_numberOfCut_88 : decode cX0_numberOfCut 88 = .ok (.iload_n 1, 1) := by decide +kernel
theorem dX0_numberOfCut_89 : decode cX0_numberOfCut 89 = .ok (.iaload, 1) := by decide +kernel
theorem dX0_numberOfCut_90 : decode cX0_numberOfCut 90 = .ok (.ireturn, 1) := by decide +kernel
theorem dX0_numberOfCut_91 : decode cX0_numberOfCut 91 = .ok (.iconst (-1), 1) := by decide +kernel
theorem dX0_numberOfCut_92 : decode cX0_numberOfCut 92 = .ok (.ireturn, 1) := by decide +kernel
abbrev rm_X0_numberOfCut : Room := { frames := 0, cells := 0, slots := 0, locals := 0 }
theorem w_X0_numberOfCut_b83 {C : zC} (hx : z_ok C cX0_numberOfCut RX0 0) (hn : z_nL C = 3) (hR : z_R C = rm_X0_numberOfCut) {rr : Int × zS} (hq : z_fin C (some .int) (z_QI (z_g C) rr.1 rr.2)) (σ : zS) (s0 : Int) (h : f_X0_numberOfCut_b83 σ s0 = some rr) : z_W C σ 83 [] [.int (zi s0)] := by
  unfold f_X0_numberOfCut_b83 at h
  cases h
  exact z_iret hx hq dX0_numberOfCut_83

theorem w_X0_numberOfCut_b12 {C : zC} (hx : z_ok C cX0_numberOfCut RX0 0) (hn : z_nL C = 3) (hR : z_R C = rm_X0_numberOfCut) {rr : Int × zS} (hq : z_fin C (some .int) (z_QI (z_g C) rr.1 rr.2)) (σ : zS) (h : f_X0_numberOfCut_b12 σ = some rr) : z_W C σ 12 [] [] := by
  unfold f_X0_numberOfCut_b12 at h
  refine z_iconst hx (n := (-1)) dX0_numberOfCut_12 ?_
  cases h
  exact z_iret hx hq dX0_numberOfCut_13

theorem w_X0_numberOfCut {C : zC} (hx : z_ok C cX0_numberOfCut RX0 0) (hn : z_nL C = 3) (hR : z_R C = rm_X0_numberOfCut) {rr : Int × zS} (hq : z_fin C (some .int) (z_QI (z_g C) rr.1 rr.2)) (σ : zS) (x1 : Int) (x2 : Int) (h : f_X0_numberOfCut σ x1 x2 = some rr) : z_W C σ 0 [(0, .ref (z_ad (z_g C) 48)), (1, .int (zi x1)), (2, .int (zi x2))] [] := by
  unfold f_X0_numberOfCut at h
  refine z_iload_n hx 1 dX0_numberOfCut_0 rfl ?_
  refine z_if_lt hx (tgt := 12) dX0_numberOfCut_1 (by decide) h (fun h => h) (fun hc h => ?_) (fun hc h => ?_)
  · refine z_sub [] rfl ?_
    exact w_X0_numberOfCut_b12 hx hn hR hq σ h
  · refine z_iload_n hx 1 dX0_numberOfCut_4 rfl ?_
    refine z_aload_n hx 0 dX0_numberOfCut_5 rfl ?_
    refine gf_X0_count hx wf_X0_28 dX0_numberOfCut_6 ?_
    refine z_icmp_lt hx (tgt := 14) dX0_numberOfCut_9 (by decide) h (fun h => h) (fun hc h => ?_) (fun hc h => ?_)
    · refine z_iload_n hx 2 dX0_numberOfCut_14 rfl ?_
      obtain ⟨hr, h⟩ := z_gd h
      by_cases hc0 : x2 = 0
      · rw [if_pos hc0] at h
        refine z_tswIn hx (tgt := 48) (off := 33) dX0_numberOfCut_15 hr (by omega) (by omega) (by rw [hc0]; rfl) (by decide) ?_
        refine z_aload_n hx 0 dX0_numberOfCut_48 rfl ?_
        refine gf_X0_begins hx wf_X0_9 dX0_numberOfCut_49 ?_
        refine z_iload_n hx 1 dX0_numberOfCut_52 rfl ?_
        refine z_iald hx (n := 20) (z_lt0 (z_ok_sd hx) (by decide)) (z_kb49 (z_ok_sd hx) _) rfl (by decide) dX0_numberOfCut_53 h (fun h => ?_)
        cases h
        exact z_iret hx hq dX0_numberOfCut_54
      · rw [if_neg hc0] at h
        by_cases hc1 : x2 = 1
        · rw [if_pos hc1] at h
          refine z_tswIn hx (tgt := 55) (off := 40) dX0_numberOfCut_15 hr (by omega) (by omega) (by rw [hc1]; rfl) (by decide) ?_
          refine z_aload_n hx 0 dX0_numberOfCut_55 rfl ?_
          refine gf_X0_ends hx wf_X0_15 dX0_numberOfCut_56 ?_
          refine z_iload_n hx 1 dX0_numberOfCut_59 rfl ?_
          refine z_iald hx (n := 20) (z_lt0 (z_ok_sd hx) (by decide)) (z_kb50 (z_ok_sd hx) _) rfl (by decide) dX0_numberOfCut_60 h (fun h => ?_)
          cases h
          exact z_iret hx hq dX0_numberOfCut_61
        · rw [if_neg hc1] at h
          by_cases hc2 : x2 = 2
          · rw [if_pos hc2] at h
            refine z_tswIn hx (tgt := 62) (off := 47) dX0_numberOfCut_15 hr (by omega) (by omega) (by rw [hc2]; rfl) (by decide) ?_
            refine z_aload_n hx 0 dX0_numberOfCut_62 rfl ?_
            refine gf_X0_pauses hx wf_X0_18 dX0_numberOfCut_63 ?_
            refine z_iload_n hx 1 dX0_numberOfCut_66 rfl ?_
            refine z_iald hx (n := 20) (z_lt0 (z_ok_sd hx) (by decide)) (z_kb51 (z_ok_sd hx) _) rfl (by decide) dX0_numberOfCut_67 h (fun h => ?_)
            cases h
            exact z_iret hx hq dX0_numberOfCut_68
          · rw [if_neg hc2] at h
            by_cases hc3 : x2 = 3
            · rw [if_pos hc3] at h
              refine z_tswIn hx (tgt := 69) (off := 54) dX0_numberOfCut_15 hr (by omega) (by omega) (by rw [hc3]; rfl) (by decide) ?_
              refine z_aload_n hx 0 dX0_numberOfCut_69 rfl ?_
              refine gf_X0_rough hx wf_X0_21 dX0_numberOfCut_70 ?_
              refine z_iload_n hx 1 dX0_numberOfCut_73 rfl ?_
              refine z_zald hx (n := 20) (z_lt0 (z_ok_sd hx) (by decide)) (z_kb52 (z_ok_sd hx) _) rfl (by decide) dX0_numberOfCut_74 h (fun h => ?_)
              refine z_if_eq hx (tgt := 82) dX0_numberOfCut_75 (by decide) h (fun h => h) (fun hc h => ?_) (fun hc h => ?_)
              · refine z_iconst hx (n := 0) dX0_numberOfCut_82 ?_
                refine z_sub [] rfl ?_
                exact w_X0_numberOfCut_b83 hx hn hR hq σ 0 h
              · refine z_iconst hx (n := 1) dX0_numberOfCut_78 ?_
                refine z_goto hx (tgt := 83) dX0_numberOfCut_79 (by decide) ?_
                refine z_sub [] rfl ?_
                exact w_X0_numberOfCut_b83 hx hn hR hq σ 1 h
            · rw [if_neg hc3] at h
              by_cases hc4 : x2 = 4
              · rw [if_pos hc4] at h
                refine z_tswIn hx (tgt := 84) (off := 69) dX0_numberOfCut_15 hr (by omega) (by omega) (by rw [hc4]; rfl) (by decide) ?_
                refine z_aload_n hx 0 dX0_numberOfCut_84 rfl ?_
                refine gf_X0_markNumbers hx wf_X0_25 dX0_numberOfCut_85 ?_
                refine z_iload_n hx 1 dX0_numberOfCut_88 rfl ?_
                refine z_iald hx (n := 20) (z_lt0 (z_ok_sd hx) (by decide)) (z_kb53 (z_ok_sd hx) _) rfl (by decide) dX0_numberOfCut_89 h (fun h => ?_)
                cases h
                exact z_iret hx hq dX0_numberOfCut_90
              · rw [if_neg hc4] at h
                refine z_tswOut hx (tgt := 91) dX0_numberOfCut_15 hr (by omega) (by decide) ?_
                refine z_iconst hx (n := (-1)) dX0_numberOfCut_91 ?_
                cases h
                exact z_iret hx hq dX0_numberOfCut_92
    · refine z_sub [] rfl ?_
      exact w_X0_numberOfCut_b12 hx hn hR hq σ h

theorem met_X0_numberOfCut (l : Launch) (g : zG) (hg : g.1 = 0) {σ : zS} {x1 : Int} {x2 : Int} {rr : Int × zS} (h : f_X0_numberOfCut σ x1 x2 = some rr) : z_Met l yX0_numberOfCut cX0_numberOfCut 3 (some .int) rm_X0_numberOfCut g [.ref (z_ad (g) 48), .int (zi x1), .int (zi x2)] σ (z_QI g rr.1 rr.2) := by
  refine z_enter (own := RX0) (sd := 0) (lv0 := [(0, .ref (z_ad (g) 48)), (1, .int (zi x1)), (2, .int (zi x2))]) (by decide) rfl (Nat.le_of_ble_eq_true rfl) hg rfl (fun C hx hl hgC hR hn hq => ?_)
  subst hgC
  refine z_sub [0, 1, 2] rfl ?_
  exact w_X0_numberOfCut hx hn hR hq σ x1 x2 h
theorem dX0_cutFrames_0 : decode cX0_cutFrames 0 = .ok (.iconst 0, 1) := by decide +kernel
theorem dX0_cutFrames_1 : decode cX0_cutFrames 1 = .ok (.istore_n 1, 1) := by decide +kernel
theorem dX0_cutFrames_2 : decode cX0_cutFrames 2 = .ok (.iconst 0, 1) := by decide +kernel
theorem dX0_cutFrames_3 : decode cX0_cutFrames 3 = .ok (.istore_n 2, 1) := by decide +kernel
theorem dX0_cutFrames_4 : decode cX0_cutFrames 4 = .ok (.iload_n 2, 1) := by decide +kernel
theorem dX0_cutFrames_5 : decode cX0_cutFrames 5 = .ok (.aload_n 0, 1) := by decide +kernel
theorem dX0_cutFrames_6 : decode cX0_cutFrames 6 = .ok (.getfield 28, 3) := by decide +kernel
theorem dX0_cutFrames_9 : decode cX0_cutFrames 9 = .ok (.if_icmp .ge 25, 3) := by decide +kernel
theorem dX0_cutFrames_12 : decode cX0_cutFrames 12 = .ok (.iload_n 1, 1) := by decide +kernel
theorem dX0_cutFrames_13 : decode cX0_cutFrames 13 = .ok (.aload_n 0, 1) := by decide +kernel
theorem dX0_cutFrames_14 : decode cX0_cutFrames 14 = .ok (.getfield 15, 3) := by decide +kernel
theorem dX0_cutFrames_17 : decode cX0_cutFrames 17 = .ok (.iload_n 2, 1) := by decide +kernel
theorem dX0_cutFrames_18 : decode cX0_cutFrames 18 = .ok (.iaload, 1) := by decide +kernel
theorem dX0_cutFrames_19 : decode cX0_cutFrames 19 = .ok (.aload_n 0, 1) := by decide +kernel
theorem dX0_cutFrames_20 : decode cX0_cutFrames 20 = .ok (.getfield 9, 3) := by decide +kernel
theorem dX0_cutFrames_23 : decode cX0_cutFrames 23 = .ok (.iload_n 2, 1) := by decide +kernel
theorem dX0_cutFrames_24 : decode cX0_cutFrames 24 = .ok (.iaload, 1) := by decide +kernel
theorem dX0_cutFrames_25 : decode cX0_cutFrames 25 = .ok (.isub, 1) := by decide +kernel
theorem dX0_cutFrames_26 : decode cX0_cutFrames 26 = .ok (.iadd, 1) := by decide +kernel
theorem dX0_cutFrames_27 : decode cX0_cutFrames 27 = .ok (.istore_n 1, 1) := by decide +kernel
theorem dX0_cutFrames_28 : decode cX0_cutFrames 28 = .ok (.iinc 2 1, 3) := by decide +kernel
theorem dX0_cutFrames_31 : decode cX0_cutFrames 31 = .ok (.goto (-27), 3) := by decide +kernel
theorem dX0_cutFrames_34 : decode cX0_cutFrames 34 = .ok (.iload_n 1, 1) := by decide +kernel
theorem dX0_cutFrames_35 : decode cX0_cutFrames 35 = .ok (.ireturn, 1) := by decide +kernel
abbrev rm_X0_cutFrames : Room := { frames := 0, cells := 0, slots := 0, locals := 0 }
theorem w_X0_cutFrames_b4 {C : zC} (hx : z_ok C cX0_cutFrames RX0 0) (hn : z_nL C = 3) (hR : z_R C = rm_X0_cutFrames) {rr : Int × zS} (hq : z_fin C (some .int) (z_QI (z_g C) rr.1 rr.2)) {K4 : zS → Int → Int → Option (Int × zS)} (hK4 : ∀ (σ : zS) (x1 : Int) (x2 : Int) , K4 σ x1 x2 = some rr → z_W C σ 4 [(0, .ref (z_ad (z_g C) 48)), (1, .int (zi x1)), (2, .int (zi x2))] []) (σ : zS) (x1 : Int) (x2 : Int) (h : f_X0_cutFrames_b4 K4 σ x1 x2 = some rr) : z_W C σ 4 [(0, .ref (z_ad (z_g C) 48)), (1, .int (zi x1)), (2, .int (zi x2))] [] := by
  unfold f_X0_cutFrames_b4 at h
  refine z_iload_n hx 2 dX0_cutFrames_4 rfl ?_
  refine z_aload_n hx 0 dX0_cutFrames_5 rfl ?_
  refine gf_X0_count hx wf_X0_28 dX0_cutFrames_6 ?_
  refine z_icmp_ge hx (tgt := 34) dX0_cutFrames_9 (by decide) h (fun h => h) (fun hc h => ?_) (fun hc h => ?_)
  · refine z_iload_n hx 1 dX0_cutFrames_34 rfl ?_
    cases h
    exact z_iret hx hq dX0_cutFrames_35
  · refine z_iload_n hx 1 dX0_cutFrames_12 rfl ?_
    refine z_aload_n hx 0 dX0_cutFrames_13 rfl ?_
    refine gf_X0_ends hx wf_X0_15 dX0_cutFrames_14 ?_
    refine z_iload_n hx 2 dX0_cutFrames_17 rfl ?_
    refine z_iald hx (n := 20) (z_lt0 (z_ok_sd hx) (by decide)) (z_kb50 (z_ok_sd hx) _) rfl (by decide) dX0_cutFrames_18 h (fun h => ?_)
    refine z_aload_n hx 0 dX0_cutFrames_19 rfl ?_
    refine gf_X0_begins hx wf_X0_9 dX0_cutFrames_20 ?_
    refine z_iload_n hx 2 dX0_cutFrames_23 rfl ?_
    refine z_iald hx (n := 20) (z_lt0 (z_ok_sd hx) (by decide)) (z_kb49 (z_ok_sd hx) _) rfl (by decide) dX0_cutFrames_24 h (fun h => ?_)
    refine z_isub hx dX0_cutFrames_25 ?_
    refine z_iadd hx dX0_cutFrames_26 ?_
    refine z_istore_n hx hn (lv' := [(1, .int (zi (x1 + ((σ 50 x2) - (σ 49 x2))))), (0, .ref (z_ad (z_g C) 48)), (2, .int (zi x2))]) dX0_cutFrames_27 (by decide) rfl ?_
    refine z_iinc hx hn 2 (lv' := [(2, .int (zi (x2 + 1))), (1, .int (zi (x1 + ((σ 50 x2) - (σ 49 x2))))), (0, .ref (z_ad (z_g C) 48))]) dX0_cutFrames_28 rfl (by decide) rfl ?_
    refine z_goto hx (tgt := 4) dX0_cutFrames_31 (by decide) ?_
    refine z_sub [2, 1, 0] rfl ?_
    exact hK4 σ (x1 + ((σ 50 x2) - (σ 49 x2))) (x2 + 1) h

theorem w_X0_cutFrames_l4 {C : zC} (hx : z_ok C cX0_cutFrames RX0 0) (hn : z_nL C = 3) (hR : z_R C = rm_X0_cutFrames) {rr : Int × zS} (hq : z_fin C (some .int) (z_QI (z_g C) rr.1 rr.2)) : ∀ (n : Nat) (σ : zS) (x1 : Int) (x2 : Int) (_ : f_X0_cutFrames_l4 n σ x1 x2 = some rr), z_W C σ 4 [(0, .ref (z_ad (z_g C) 48)), (1, .int (zi x1)), (2, .int (zi x2))] [] := by
  intro n
  induction n with
  | zero => intro σ x1 x2 h; cases h
  | succ n ih =>
    intro σ x1 x2 h
    exact w_X0_cutFrames_b4 hx hn hR hq ih σ x1 x2 h
theorem w_X0_cutFrames {C : zC} (hx : z_ok C cX0_cutFrames RX0 0) (hn : z_nL C = 3) (hR : z_R C = rm_X0_cutFrames) {rr : Int × zS} (hq : z_fin C (some .int) (z_QI (z_g C) rr.1 rr.2)) (σ : zS) (h : f_X0_cutFrames σ = some rr) : z_W C σ 0 [(0, .ref (z_ad (z_g C) 48))] [] := by
  unfold f_X0_cutFrames at h
  refine z_iconst hx (n := 0) dX0_cutFrames_0 ?_
  refine z_istore_n hx hn (lv' := [(1, .int (zi 0)), (0, .ref (z_ad (z_g C) 48))]) dX0_cutFrames_1 (by decide) rfl ?_
  refine z_iconst hx (n := 0) dX0_cutFrames_2 ?_
  refine z_istore_n hx hn (lv' := [(2, .int (zi 0)), (1, .int (zi 0)), (0, .ref (z_ad (z_g C) 48))]) dX0_cutFrames_3 (by decide) rfl ?_
  refine z_sub [2, 1, 0] rfl ?_
  exact w_X0_cutFrames_l4 hx hn hR hq z_fuel σ 0 0 h

theorem met_X0_cutFrames (l : Launch) (g : zG) (hg : g.1 = 0) {σ : zS} {rr : Int × zS} (h : f_X0_cutFrames σ = some rr) : z_Met l yX0_cutFrames cX0_cutFrames 3 (some .int) rm_X0_cutFrames g [.ref (z_ad (g) 48)] σ (z_QI g rr.1 rr.2) := by
  refine z_enter (own := RX0) (sd := 0) (lv0 := [(0, .ref (z_ad (g) 48))]) (by decide) rfl (Nat.le_of_ble_eq_true rfl) hg rfl (fun C hx hl hgC hR hn hq => ?_)
  subst hgC
  refine z_sub [0] rfl ?_
  exact w_X0_cutFrames hx hn hR hq σ h
theorem dX0_pauseFrames_0 : decode cX0_pauseFrames 0 = .ok (.iconst 0, 1) := by decide +kernel
theorem dX0_pauseFrames_1 : decode cX0_pauseFrames 1 = .ok (.istore_n 1, 1) := by decide +kernel
theorem dX0_pauseFrames_2 : decode cX0_pauseFrames 2 = .ok (.iconst 0, 1) := by decide +kernel
theorem dX0_pauseFrames_3 : decode cX0_pauseFrames 3 = .ok (.istore_n 2, 1) := by decide +kernel
theorem dX0_pauseFrames_4 : decode cX0_pauseFrames 4 = .ok (.iload_n 2, 1) := by decide +kernel
theorem dX0_pauseFrames_5 : decode cX0_pauseFrames 5 = .ok (.aload_n 0, 1) := by decide +kernel
theorem dX0_pauseFrames_6 : decode cX0_pauseFrames 6 = .ok (.getfield 28, 3) := by decide +kernel
theorem dX0_pauseFrames_9 : decode cX0_pauseFrames 9 = .ok (.if_icmp .ge 18, 3) := by decide +kernel
theorem dX0_pauseFrames_12 : decode cX0_pauseFrames 12 = .ok (.iload_n 1, 1) := by decide +kernel
theorem dX0_pauseFrames_13 : decode cX0_pauseFrames 13 = .ok (.aload_n 0, 1) := by decide +kernel
theorem dX0_pauseFrames_14 : decode cX0_pauseFrames 14 = .ok (.getfield 18, 3) := by decide +kernel
theorem dX0_pauseFrames_17 : decode cX0_pauseFrames 17 = .ok (.iload_n 2, 1) := by decide +kernel
theorem dX0_pauseFrames_18 : decode cX0_pauseFrames 18 = .ok (.iaload, 1) := by decide +kernel
theorem dX0_pauseFrames_19 : decode cX0_pauseFrames 19 = .ok (.iadd, 1) := by decide +kernel
theorem dX0_pauseFrames_20 : decode cX0_pauseFrames 20 = .ok (.istore_n 1, 1) := by decide +kernel
theorem dX0_pauseFrames_21 : decode cX0_pauseFrames 21 = .ok (.iinc 2 1, 3) := by decide +kernel
theorem dX0_pauseFrames_24 : decode cX0_pauseFrames 24 = .ok (.goto (-20), 3) := by decide +kernel
theorem dX0_pauseFrames_27 : decode cX0_pauseFrames 27 = .ok (.iload_n 1, 1) := by decide +kernel
theorem dX0_pauseFrames_28 : decode cX0_pauseFrames 28 = .ok (.ireturn, 1) := by decide +kernel
abbrev rm_X0_pauseFrames : Room := { frames := 0, cells := 0, slots := 0, locals := 0 }
theorem w_X0_pauseFrames_b4 {C : zC} (hx : z_ok C cX0_pauseFrames RX0 0) (hn : z_nL C = 3) (hR : z_R C = rm_X0_pauseFrames) {rr : Int × zS} (hq : z_fin C (some .int) (z_QI (z_g C) rr.1 rr.2)) {K4 : zS → Int → Int → Option (Int × zS)} (hK4 : ∀ (σ : zS) (x1 : Int) (x2 : Int) , K4 σ x1 x2 = some rr → z_W C σ 4 [(0, .ref (z_ad (z_g C) 48)), (1, .int (zi x1)), (2, .int (zi x2))] []) (σ : zS) (x1 : Int) (x2 : Int) (h : f_X0_pauseFrames_b4 K4 σ x1 x2 = some rr) : z_W C σ 4 [(0, .ref (z_ad (z_g C) 48)), (1, .int (zi x1)), (2, .int (zi x2))] [] := by
  unfold f_X0_pauseFrames_b4 at h
  refine z_iload_n hx 2 dX0_pauseFrames_4 rfl ?_
  refine z_aload_n hx 0 dX0_pauseFrames_5 rfl ?_
  refine gf_X0_count hx wf_X0_28 dX0_pauseFrames_6 ?_
  refine z_icmp_ge hx (tgt := 27) dX0_pauseFrames_9 (by decide) h (fun h => h) (fun hc h => ?_) (fun hc h => ?_)
  · refine z_iload_n hx 1 dX0_pauseFrames_27 rfl ?_
    cases h
    exact z_iret hx hq dX0_pauseFrames_28
  · refine z_iload_n hx 1 dX0_pauseFrames_12 rfl ?_
    refine z_aload_n hx 0 dX0_pauseFrames_13 rfl ?_
    refine gf_X0_pauses hx wf_X0_18 dX0_pauseFrames_14 ?_
    refine z_iload_n hx 2 dX0_pauseFrames_17 rfl ?_
    refine z_iald hx (n := 20) (z_lt0 (z_ok_sd hx) (by decide)) (z_kb51 (z_ok_sd hx) _) rfl (by decide) dX0_pauseFrames_18 h (fun h => ?_)
    refine z_iadd hx dX0_pauseFrames_19 ?_
    refine z_istore_n hx hn (lv' := [(1, .int (zi (x1 + (σ 51 x2)))), (0, .ref (z_ad (z_g C) 48)), (2, .int (zi x2))]) dX0_pauseFrames_20 (by decide) rfl ?_
    refine z_iinc hx hn 2 (lv' := [(2, .int (zi (x2 + 1))), (1, .int (zi (x1 + (σ 51 x2)))), (0, .ref (z_ad (z_g C) 48))]) dX0_pauseFrames_21 rfl (by decide) rfl ?_
    refine z_goto hx (tgt := 4) dX0_pauseFrames_24 (by decide) ?_
    refine z_sub [2, 1, 0] rfl ?_
    exact hK4 σ (x1 + (σ 51 x2)) (x2 + 1) h

theorem w_X0_pauseFrames_l4 {C : zC} (hx : z_ok C cX0_pauseFrames RX0 0) (hn : z_nL C = 3) (hR : z_R C = rm_X0_pauseFrames) {rr : Int × zS} (hq : z_fin C (some .int) (z_QI (z_g C) rr.1 rr.2)) : ∀ (n : Nat) (σ : zS) (x1 : Int) (x2 : Int) (_ : f_X0_pauseFrames_l4 n σ x1 x2 = some rr), z_W C σ 4 [(0, .ref (z_ad (z_g C) 48)), (1, .int (zi x1)), (2, .int (zi x2))] [] := by
  intro n
  induction n with
  | zero => intro σ x1 x2 h; cases h
  | succ n ih =>
    intro σ x1 x2 h
    exact w_X0_pauseFrames_b4 hx hn hR hq ih σ x1 x2 h
theorem w_X0_pauseFrames {C : zC} (hx : z_ok C cX0_pauseFrames RX0 0) (hn : z_nL C = 3) (hR : z_R C = rm_X0_pauseFrames) {rr : Int × zS} (hq : z_fin C (some .int) (z_QI (z_g C) rr.1 rr.2)) (σ : zS) (h : f_X0_pauseFrames σ = some rr) : z_W C σ 0 [(0, .ref (z_ad (z_g C) 48))] [] := by
  unfold f_X0_pauseFrames at h
  refine z_iconst hx (n := 0) dX0_pauseFrames_0 ?_
  refine z_istore_n hx hn (lv' := [(1, .int (zi 0)), (0, .ref (z_ad (z_g C) 48))]) dX0_pauseFrames_1 (by decide) rfl ?_
  refine z_iconst hx (n := 0) dX0_pauseFrames_2 ?_
  refine z_istore_n hx hn (lv' := [(2, .int (zi 0)), (1, .int (zi 0)), (0, .ref (z_ad (z_g C) 48))]) dX0_pauseFrames_3 (by decide) rfl ?_
  refine z_sub [2, 1, 0] rfl ?_
  exact w_X0_pauseFrames_l4 hx hn hR hq z_fuel σ 0 0 h

theorem met_X0_pauseFrames (l : Launch) (g : zG) (hg : g.1 = 0) {σ : zS} {rr : Int × zS} (h : f_X0_pauseFrames σ = some rr) : z_Met l yX0_pauseFrames cX0_pauseFrames 3 (some .int) rm_X0_pauseFrames g [.ref (z_ad (g) 48)] σ (z_QI g rr.1 rr.2) := by
  refine z_enter (own := RX0) (sd := 0) (lv0 := [(0, .ref (z_ad (g) 48))]) (by decide) rfl (Nat.le_of_ble_eq_true rfl) hg rfl (fun C hx hl hgC hR hn hq => ?_)
  subst hgC
  refine z_sub [0] rfl ?_
  exact w_X0_pauseFrames hx hn hR hq σ h
theorem dX0_roughCuts_0 : decode cX0_roughCuts 0 = .ok (.iconst 0, 1) := by decide +kernel
theorem dX0_roughCuts_1 : decode cX0_roughCuts 1 = .ok (.istore_n 1, 1) := by decide +kernel
theorem dX0_roughCuts_2 : decode cX0_roughCuts 2 = .ok (.iconst 0, 1) := by decide +kernel
theorem dX0_roughCuts_3 : decode cX0_roughCuts 3 = .ok (.istore_n 2, 1) := by decide +kernel
theorem dX0_roughCuts_4 : decode cX0_roughCuts 4 = .ok (.iload_n 2, 1) := by decide +kernel
theorem dX0_roughCuts_5 : decode cX0_roughCuts 5 = .ok (.aload_n 0, 1) := by decide +kernel
theorem dX0_roughCuts_6 : decode cX0_roughCuts 6 = .ok (.getfield 28, 3) := by decide +kernel
theorem dX0_roughCuts_9 : decode cX0_roughCuts 9 = .ok (.if_icmp .ge 26, 3) := by decide +kernel
theorem dX0_roughCuts_12 : decode cX0_roughCuts 12 = .ok (.iload_n 1, 1) := by decide +kernel
theorem dX0_roughCuts_13 : decode cX0_roughCuts 13 = .ok (.aload_n 0, 1) := by decide +kernel
theorem dX0_roughCuts_14 : decode cX0_roughCuts 14 = .ok (.getfield 21, 3) := by decide +kernel
theorem dX0_roughCuts_17 : decode cX0_roughCuts 17 = .ok (.iload_n 2, 1) := by decide +kernel
theorem dX0_roughCuts_18 : decode cX0_roughCuts 18 = .ok (.baload, 1) := by decide +kernel
theorem dX0_roughCuts_19 : decode cX0_roughCuts 19 = .ok (.ifCond .eq 7, 3) := by decide +kernel
theorem dX0_roughCuts_22 : decode cX0_roughCuts 22 = .ok (.iconst 1, 1) := by decide +kernel
theorem dX0_roughCuts_23 : decode cX0_roughCuts 23 = .ok (.goto 4, 3) := by decide +kernel
theorem dX0_roughCuts_26 : decode cX0_roughCuts 26 = .ok (.iconst 0, 1) := by decide +kernel
theorem dX0_roughCuts_27 : decode cX0_roughCuts 27 = .ok (.iadd, 1) := by decide +kernel
theorem dX0_roughCuts_28 : decode cX0_roughCuts 28 = .ok (.istore_n 1, 1) := by decide +kernel
theorem dX0_roughCuts_29 : decode cX0_roughCuts 29 = .ok (.iinc 2 1, 3) := by decide +kernel
theorem dX0_roughCuts_32 : decode cX0_roughCuts 32 = .ok (.goto (-28), 3) := by decide +kernel
theorem dX0_roughCuts_35 : decode cX0_roughCuts 35 = .ok (.iload_n 1, 1) := by decide +kernel
theorem dX0_roughCuts_36 : decode cX0_roughCuts 36 = .ok (.ireturn, 1) := by decide +kernel
abbrev rm_X0_roughCuts : Room := { frames := 0, cells := 0, slots := 0, locals := 0 }
theorem w_X0_roughCuts_b27 {C : zC} (hx : z_ok C cX0_roughCuts RX0 0) (hn : z_nL C = 3) (hR : z_R C = rm_X0_roughCuts) {rr : Int × zS} (hq : z_fin C (some .int) (z_QI (z_g C) rr.1 rr.2)) {K4 : zS → Int → Int → Option (Int × zS)} (hK4 : ∀ (σ : zS) (x1 : Int) (x2 : Int) , K4 σ x1 x2 = some rr → z_W C σ 4 [(0, .ref (z_ad (z_g C) 48)), (1, .int (zi x1)), (2, .int (zi x2))] []) (σ : zS) (x2 : Int) (s0 : Int) (s1 : Int) (h : f_X0_roughCuts_b27 K4 σ x2 s0 s1 = some rr) : z_W C σ 27 [(0, .ref (z_ad (z_g C) 48)), (2, .int (zi x2))] [.int (zi s1), .int (zi s0)] := by
  unfold f_X0_roughCuts_b27 at h
  refine z_iadd hx dX0_roughCuts_27 ?_
  refine z_istore_n hx hn (lv' := [(1, .int (zi (s0 + s1))), (0, .ref (z_ad (z_g C) 48)), (2, .int (zi x2))]) dX0_roughCuts_28 (by decide) rfl ?_
  refine z_iinc hx hn 2 (lv' := [(2, .int (zi (x2 + 1))), (1, .int (zi (s0 + s1))), (0, .ref (z_ad (z_g C) 48))]) dX0_roughCuts_29 rfl (by decide) rfl ?_
  refine z_goto hx (tgt := 4) dX0_roughCuts_32 (by decide) ?_
  refine z_sub [2, 1, 0] rfl ?_
  exact hK4 σ (s0 + s1) (x2 + 1) h

theorem w_X0_roughCuts_b4 {C : zC} (hx : z_ok C cX0_roughCuts RX0 0) (hn : z_nL C = 3) (hR : z_R C = rm_X0_roughCuts) {rr : Int × zS} (hq : z_fin C (some .int) (z_QI (z_g C) rr.1 rr.2)) {K4 : zS → Int → Int → Option (Int × zS)} (hK4 : ∀ (σ : zS) (x1 : Int) (x2 : Int) , K4 σ x1 x2 = some rr → z_W C σ 4 [(0, .ref (z_ad (z_g C) 48)), (1, .int (zi x1)), (2, .int (zi x2))] []) (σ : zS) (x1 : Int) (x2 : Int) (h : f_X0_roughCuts_b4 K4 σ x1 x2 = some rr) : z_W C σ 4 [(0, .ref (z_ad (z_g C) 48)), (1, .int (zi x1)), (2, .int (zi x2))] [] := by
  unfold f_X0_roughCuts_b4 at h
  refine z_iload_n hx 2 dX0_roughCuts_4 rfl ?_
  refine z_aload_n hx 0 dX0_roughCuts_5 rfl ?_
  refine gf_X0_count hx wf_X0_28 dX0_roughCuts_6 ?_
  refine z_icmp_ge hx (tgt := 35) dX0_roughCuts_9 (by decide) h (fun h => h) (fun hc h => ?_) (fun hc h => ?_)
  · refine z_iload_n hx 1 dX0_roughCuts_35 rfl ?_
    cases h
    exact z_iret hx hq dX0_roughCuts_36
  · refine z_iload_n hx 1 dX0_roughCuts_12 rfl ?_
    refine z_aload_n hx 0 dX0_roughCuts_13 rfl ?_
    refine gf_X0_rough hx wf_X0_21 dX0_roughCuts_14 ?_
    refine z_iload_n hx 2 dX0_roughCuts_17 rfl ?_
    refine z_zald hx (n := 20) (z_lt0 (z_ok_sd hx) (by decide)) (z_kb52 (z_ok_sd hx) _) rfl (by decide) dX0_roughCuts_18 h (fun h => ?_)
    refine z_if_eq hx (tgt := 26) dX0_roughCuts_19 (by decide) h (fun h => h) (fun hc h => ?_) (fun hc h => ?_)
    · refine z_iconst hx (n := 0) dX0_roughCuts_26 ?_
      refine z_sub [0, 2] rfl ?_
      exact w_X0_roughCuts_b27 hx hn hR hq hK4 σ x2 x1 0 h
    · refine z_iconst hx (n := 1) dX0_roughCuts_22 ?_
      refine z_goto hx (tgt := 27) dX0_roughCuts_23 (by decide) ?_
      refine z_sub [0, 2] rfl ?_
      exact w_X0_roughCuts_b27 hx hn hR hq hK4 σ x2 x1 1 h

theorem w_X0_roughCuts_l4 {C : zC} (hx : z_ok C cX0_roughCuts RX0 0) (hn : z_nL C = 3) (hR : z_R C = rm_X0_roughCuts) {rr : Int × zS} (hq : z_fin C (some .int) (z_QI (z_g C) rr.1 rr.2)) : ∀ (n : Nat) (σ : zS) (x1 : Int) (x2 : Int) (_ : f_X0_roughCuts_l4 n σ x1 x2 = some rr), z_W C σ 4 [(0, .ref (z_ad (z_g C) 48)), (1, .int (zi x1)), (2, .int (zi x2))] [] := by
  intro n
  induction n with
  | zero => intro σ x1 x2 h; cases h
  | succ n ih =>
    intro σ x1 x2 h
    exact w_X0_roughCuts_b4 hx hn hR hq ih σ x1 x2 h
theorem w_X0_roughCuts {C : zC} (hx : z_ok C cX0_roughCuts RX0 0) (hn : z_nL C = 3) (hR : z_R C = rm_X0_roughCuts) {rr : Int × zS} (hq : z_fin C (some .int) (z_QI (z_g C) rr.1 rr.2)) (σ : zS) (h : f_X0_roughCuts σ = some rr) : z_W C σ 0 [(0, .ref (z_ad (z_g C) 48))] [] := by
  unfold f_X0_roughCuts at h
  refine z_iconst hx (n := 0) dX0_roughCuts_0 ?_
  refine z_istore_n hx hn (lv' := [(1, .int (zi 0)), (0, .ref (z_ad (z_g C) 48))]) dX0_roughCuts_1 (by decide) rfl ?_
  refine z_iconst hx (n := 0) dX0_roughCuts_2 ?_
  refine z_istore_n hx hn (lv' := [(2, .int (zi 0)), (1, .int (zi 0)), (0, .ref (z_ad (z_g C) 48))]) dX0_roughCuts_3 (by decide) rfl ?_
  refine z_sub [2, 1, 0] rfl ?_
  exact w_X0_roughCuts_l4 hx hn hR hq z_fuel σ 0 0 h

theorem met_X0_roughCuts (l : Launch) (g : zG) (hg : g.1 = 0) {σ : zS} {rr : Int × zS} (h : f_X0_roughCuts σ = some rr) : z_Met l yX0_roughCuts cX0_roughCuts 3 (some .int) rm_X0_roughCuts g [.ref (z_ad (g) 48)] σ (z_QI g rr.1 rr.2) := by
  refine z_enter (own := RX0) (sd := 0) (lv0 := [(0, .ref (z_ad (g) 48))]) (by decide) rfl (Nat.le_of_ble_eq_true rfl) hg rfl (fun C hx hl hgC hR hn hq => ?_)
  subst hgC
  refine z_sub [0] rfl ?_
  exact w_X0_roughCuts hx hn hR hq σ h
theorem dX1_dropOldest_0 : decode cX1_dropOldest 0 = .ok (.aload_n 0, 1) := by decide +kernel
theorem dX1_dropOldest_1 : decode cX1_dropOldest 1 = .ok (.getfield 11, 3) := by decide +kernel
theorem dX1_dropOldest_4 : decode cX1_dropOldest 4 = .ok (.iconst 0, 1) := by decide +kernel
theorem dX1_dropOldest_5 : decode cX1_dropOldest 5 = .ok (.aaload, 1) := by decide +kernel
theorem dX1_dropOldest_6 : decode cX1_dropOldest 6 = .ok (.astore_n 1, 1) := by decide +kernel
theorem dX1_dropOldest_7 : decode cX1_dropOldest 7 = .ok (.iconst 1, 1) := by decide +kernel
theorem dX1_dropOldest_8 : decode cX1_dropOldest 8 = .ok (.istore_n 2, 1) := by decide +kernel
theorem dX1_dropOldest_9 : decode cX1_dropOldest 9 = .ok (.iload_n 2, 1) := by decide +kernel
theorem dX1_dropOldest_10 : decode cX1_dropOldest 10 = .ok (.iconst 4, 1) := by decide +kernel
theorem dX1_dropOldest_11 : decode cX1_dropOldest 11 = .ok (.if_icmp .ge 23, 3) := by decide +kernel
theorem dX1_dropOldest_14 : decode cX1_dropOldest 14 = .ok (.aload_n 0, 1) := by decide +kernel
theorem dX1_dropOldest_15 : decode cX1_dropOldest 15 = .ok (.getfield 11, 3) := by decide +kernel
theorem dX1_dropOldest_18 : decode cX1_dropOldest 18 = .ok (.iload_n 2, 1) := by decide +kernel
theorem dX1_dropOldest_19 : decode cX1_dropOldest 19 = .ok (.iconst 1, 1) := by decide +kernel
theorem dX1_dropOldest_20 : decode cX1_dropOldest 20 = .ok (.isub, 1) := by decide +kernel
theorem dX1_dropOldest_21 : decode cX1_dropOldest 21 = .ok (.aload_n 0, 1) := by decide +kernel
theorem dX1_dropOldest_22 : decode cX1_dropOldest 22 = .ok (.getfield 11, 3) := by decide +kernel
theorem dX1_dropOldest_25 : decode cX1_dropOldest 25 = .ok (.iload_n 2, 1) := by decide +kernel
theorem dX1_dropOldest_26 : decode cX1_dropOldest 26 = .ok (.aaload, 1) := by decide +kernel
theorem dX1_dropOldest_27 : decode cX1_dropOldest 27 = .ok (.aastore, 1) := by decide +kernel
theorem dX1_dropOldest_28 : decode cX1_dropOldest 28 = .ok (.iinc 2 1, 3) := by decide +kernel
theorem dX1_dropOldest_31 : decode cX1_dropOldest 31 = .ok (.goto (-22), 3) := by decide +kernel
theorem dX1_dropOldest_34 : decode cX1_dropOldest 34 = .ok (.aload_n 0, 1) := by decide +kernel
theorem dX1_dropOldest_35 : decode cX1_dropOldest 35 = .ok (.getfield 11, 3) := by decide +kernel
theorem dX1_dropOldest_38 : decode cX1_dropOldest 38 = .ok (.iconst 3, 1) := by decide +kernel
theorem dX1_dropOldest_39 : decode cX1_dropOldest 39 = .ok (.aload_n 1, 1) := by decide +kernel
theorem dX1_dropOldest_40 : decode cX1_dropOldest 40 = .ok (.aastore, 1) := by decide +kernel
theorem dX1_dropOldest_41 : decode cX1_dropOldest 41 = .ok (.aload_n 0, 1) := by decide +kernel
theorem dX1_dropOldest_42 : decode cX1_dropOldest 42 = .ok (.iconst 3, 1) := by decide +kernel
theorem dX1_dropOldest_43 : decode cX1_dropOldest 43 = .ok (.putfield 17, 3) := by decide +kernel
theorem dX1_dropOldest_46 : decode cX1_dropOldest 46 = .ok (.return_, 1) := by decide +kernel
abbrev rm_X1_dropOldest : Room := { frames := 0, cells := 0, slots := 0, locals := 0 }
theorem w_X1_dropOldest_b9 {C : zC} (hx : z_ok C cX1_dropOldest RX1 0) (hn : z_nL C = 3) (hR : z_R C = rm_X1_dropOldest) {rr : Unit × zS} (hq : z_fin C none (z_QV (z_g C) rr.2)) {K9 : zS → Nat → Int → Option (Unit × zS)} (hK9 : ∀ (σ : zS) (n1 : Nat) (hn1 : n1 < 6) (x2 : Int) , K9 σ n1 x2 = some rr → z_W C σ 9 [(0, .ref (z_ad (z_g C) 60)), (1, .ref (z_ad (z_g C) (8 * n1))), (2, .int (zi x2))] []) (σ : zS) (n1 : Nat) (hn1 : n1 < 6) (x2 : Int) (h : f_X1_dropOldest_b9 K9 σ n1 x2 = some rr) : z_W C σ 9 [(0, .ref (z_ad (z_g C) 60)), (1, .ref (z_ad (z_g C) (8 * n1))), (2, .int (zi x2))] [] := by
  unfold f_X1_dropOldest_b9 at h
  refine z_iload_n hx 2 dX1_dropOldest_9 rfl ?_
  refine z_iconst hx (n := 4) dX1_dropOldest_10 ?_
  refine z_icmp_ge hx (tgt := 34) dX1_dropOldest_11 (by decide) h (fun h => ⟨h, by decide⟩) (fun hc h => ?_) (fun hc h => ?_)
  · refine z_aload_n hx 0 dX1_dropOldest_34 rfl ?_
    refine gf_X1_states hx wf_X1_11 dX1_dropOldest_35 ?_
    refine z_iconst hx (n := 3) dX1_dropOldest_38 ?_
    refine z_aload_n hx 1 dX1_dropOldest_39 rfl ?_
    refine z_aast hx hn1 dX1_dropOldest_40 h (fun σ1 h => ?_)
    refine z_aload_n hx 0 dX1_dropOldest_41 rfl ?_
    refine z_iconst hx (n := 3) dX1_dropOldest_42 ?_
    refine pf_X1_count hx wf_X1_17 dX1_dropOldest_43 h (fun σ2 h => ?_)
    cases h
    exact z_vret hx hq dX1_dropOldest_46
  · refine z_aload_n hx 0 dX1_dropOldest_14 rfl ?_
    refine gf_X1_states hx wf_X1_11 dX1_dropOldest_15 ?_
    refine z_iload_n hx 2 dX1_dropOldest_18 rfl ?_
    refine z_iconst hx (n := 1) dX1_dropOldest_19 ?_
    refine z_isub hx dX1_dropOldest_20 ?_
    refine z_aload_n hx 0 dX1_dropOldest_21 rfl ?_
    refine gf_X1_states hx wf_X1_11 dX1_dropOldest_22 ?_
    refine z_iload_n hx 2 dX1_dropOldest_25 rfl ?_
    refine z_aald hx dX1_dropOldest_26 h (fun h hr26 => ?_)
    refine z_aast hx hr26 dX1_dropOldest_27 h (fun σ3 h => ?_)
    refine z_iinc hx hn 2 (lv' := [(2, .int (zi (x2 + 1))), (0, .ref (z_ad (z_g C) 60)), (1, .ref (z_ad (z_g C) (8 * n1)))]) dX1_dropOldest_28 rfl (by decide) rfl ?_
    refine z_goto hx (tgt := 9) dX1_dropOldest_31 (by decide) ?_
    refine z_sub [1, 2, 0] rfl ?_
    exact hK9 σ3 n1 hn1 (x2 + 1) h

theorem w_X1_dropOldest_l9 {C : zC} (hx : z_ok C cX1_dropOldest RX1 0) (hn : z_nL C = 3) (hR : z_R C = rm_X1_dropOldest) {rr : Unit × zS} (hq : z_fin C none (z_QV (z_g C) rr.2)) : ∀ (n : Nat) (σ : zS) (n1 : Nat) (hn1 : n1 < 6) (x2 : Int) (_ : f_X1_dropOldest_l9 n σ n1 x2 = some rr), z_W C σ 9 [(0, .ref (z_ad (z_g C) 60)), (1, .ref (z_ad (z_g C) (8 * n1))), (2, .int (zi x2))] [] := by
  intro n
  induction n with
  | zero => intro σ n1 hn1 x2 h; cases h
  | succ n ih =>
    intro σ n1 hn1 x2 h
    exact w_X1_dropOldest_b9 hx hn hR hq ih σ n1 hn1 x2 h
theorem w_X1_dropOldest {C : zC} (hx : z_ok C cX1_dropOldest RX1 0) (hn : z_nL C = 3) (hR : z_R C = rm_X1_dropOldest) {rr : Unit × zS} (hq : z_fin C none (z_QV (z_g C) rr.2)) (σ : zS) (h : f_X1_dropOldest σ = some rr) : z_W C σ 0 [(0, .ref (z_ad (z_g C) 60))] [] := by
  unfold f_X1_dropOldest at h
  refine z_aload_n hx 0 dX1_dropOldest_0 rfl ?_
  refine gf_X1_states hx wf_X1_11 dX1_dropOldest_1 ?_
  refine z_iconst hx (n := 0) dX1_dropOldest_4 ?_
  refine z_aald hx dX1_dropOldest_5 h (fun h hr5 => ?_)
  refine z_astore_n hx hn (lv' := [(1, .ref (z_ad (z_g C) (8 * (σ 61 0).toNat))), (0, .ref (z_ad (z_g C) 60))]) dX1_dropOldest_6 (by decide) rfl ?_
  refine z_iconst hx (n := 1) dX1_dropOldest_7 ?_
  refine z_istore_n hx hn (lv' := [(2, .int (zi 1)), (1, .ref (z_ad (z_g C) (8 * (σ 61 0).toNat))), (0, .ref (z_ad (z_g C) 60))]) dX1_dropOldest_8 (by decide) rfl ?_
  refine z_sub [2, 1, 0] rfl ?_
  exact w_X1_dropOldest_l9 hx hn hR hq z_fuel σ ((σ 61 0).toNat) hr5 1 h

theorem met_X1_dropOldest (l : Launch) (g : zG) (hg : g.1 = 0) {σ : zS} {rr : Unit × zS} (h : f_X1_dropOldest σ = some rr) : z_Met l yX1_dropOldest cX1_dropOldest 3 none rm_X1_dropOldest g [.ref (z_ad (g) 60)] σ (z_QV g rr.2) := by
  refine z_enter (own := RX1) (sd := 0) (lv0 := [(0, .ref (z_ad (g) 60))]) (by decide) rfl (Nat.le_of_ble_eq_true rfl) hg rfl (fun C hx hl hgC hR hn hq => ?_)
  subst hgC
  refine z_sub [0] rfl ?_
  exact w_X1_dropOldest hx hn hR hq σ h
theorem dX1_keep_0 : decode cX1_keep 0 = .ok (.aload_n 0, 1) := by decide +kernel
theorem dX1_keep_1 : decode cX1_keep 1 = .ok (.getfield 17, 3) := by decide +kernel
theorem dX1_keep_4 : decode cX1_keep 4 = .ok (.iconst 4, 1) := by decide +kernel
theorem dX1_keep_5 : decode cX1_keep 5 = .ok (.if_icmp .lt 7, 3) := by decide +kernel
theorem dX1_keep_8 : decode cX1_keep 8 = .ok (.aload_n 0, 1) := by decide +kernel
theorem dX1_keep_9 : decode cX1_keep 9 = .ok (.invokevirtual 22, 3) := by decide +kernel
theorem dX1_keep_12 : decode cX1_keep 12 = .ok (.aload_n 0, 1) := by decide +kernel
theorem dX1_keep_13 : decode cX1_keep 13 = .ok (.getfield 11, 3) := by decide +kernel
theorem dX1_keep_16 : decode cX1_keep 16 = .ok (.aload_n 0, 1) := by decide +kernel
theorem dX1_keep_17 : decode cX1_keep 17 = .ok (.getfield 17, 3) := by decide +kernel
theorem dX1_keep_20 : decode cX1_keep 20 = .ok (.aaload, 1) := by decide +kernel
theorem dX1_keep_21 : decode cX1_keep 21 = .ok (.aload_n 1, 1) := by decide +kernel
theorem dX1_keep_22 : decode cX1_keep 22 = .ok (.invokevirtual 25, 3) := by decide +kernel
theorem dX1_keep_25 : decode cX1_keep 25 = .ok (.aload_n 0, 1) := by decide +kernel
theorem dX1_keep_26 : decode cX1_keep 26 = .ok (.dup, 1) := by decide +kernel
theorem dX1_keep_27 : decode cX1_keep 27 = .ok (.getfield 17, 3) := by decide +kernel
theorem dX1_keep_30 : decode cX1_keep 30 = .ok (.iconst 1, 1) := by decide +kernel
theorem dX1_keep_31 : decode cX1_keep 31 = .ok (.iadd, 1) := by decide +kernel
theorem dX1_keep_32 : decode cX1_keep 32 = .ok (.putfield 17, 3) := by decide +kernel
theorem dX1_keep_35 : decode cX1_keep 35 = .ok (.return_, 1) := by decide +kernel
abbrev rm_X1_keep : Room := { frames := 3, cells := 0, slots := 0, locals := 103 }
theorem w_X1_keep_b12 {C : zC} (hx : z_ok C cX1_keep RX1 0) (hn : z_nL C = 2) (hR : z_R C = rm_X1_keep) {rr : Unit × zS} (hq : z_fin C none (z_QV (z_g C) rr.2)) {k : Nat} (hk : k < 6) (σ : zS) (h : f_X1_keep_b12 k σ = some rr) : z_W C σ 12 [(0, .ref (z_ad (z_g C) 60)), (1, .ref (z_ad (z_g C) (8 * k)))] [] := by
  unfold f_X1_keep_b12 at h
  refine z_aload_n hx 0 dX1_keep_12 rfl ?_
  refine gf_X1_states hx wf_X1_11 dX1_keep_13 ?_
  refine z_aload_n hx 0 dX1_keep_16 rfl ?_
  refine gf_X1_count hx wf_X1_17 dX1_keep_17 ?_
  refine z_aald hx dX1_keep_20 h (fun h hr20 => ?_)
  refine z_aload_n hx 1 dX1_keep_21 rfl ?_
  obtain ⟨⟨⟩, σ1, h22, h⟩ := z_bind_some h
  refine z_callv hx (As := [.ref (z_ad (z_g C) (8 * k))]) (k := 8 * (σ 61 (σ 60 1)).toNat) (met_X2_copyAll (z_l C) (z_g C) (z_ok_sd hx) hr20 hk h22) (z_lt0 (z_ok_sd hx) (by have := hr20; omega)) (z_ka0 (z_ok_sd hx) hr20 _) rfl rfl cv_X1_25 (z_room hR ⟨Nat.le_of_ble_eq_true rfl, Nat.le_of_ble_eq_true rfl⟩) ⟨rfl, rfl⟩ rfl rfl (Nat.le_of_ble_eq_true rfl) dX1_keep_22 ?_
  refine z_aload_n hx 0 dX1_keep_25 rfl ?_
  refine z_dup hx dX1_keep_26 rfl ?_
  refine gf_X1_count hx wf_X1_17 dX1_keep_27 ?_
  refine z_iconst hx (n := 1) dX1_keep_30 ?_
  refine z_iadd hx dX1_keep_31 ?_
  refine pf_X1_count hx wf_X1_17 dX1_keep_32 h (fun σ2 h => ?_)
  cases h
  exact z_vret hx hq dX1_keep_35

theorem w_X1_keep {C : zC} (hx : z_ok C cX1_keep RX1 0) (hn : z_nL C = 2) (hR : z_R C = rm_X1_keep) {rr : Unit × zS} (hq : z_fin C none (z_QV (z_g C) rr.2)) {k : Nat} (hk : k < 6) (σ : zS) (h : f_X1_keep k σ = some rr) : z_W C σ 0 [(0, .ref (z_ad (z_g C) 60)), (1, .ref (z_ad (z_g C) (8 * k)))] [] := by
  unfold f_X1_keep at h
  refine z_aload_n hx 0 dX1_keep_0 rfl ?_
  refine gf_X1_count hx wf_X1_17 dX1_keep_1 ?_
  refine z_iconst hx (n := 4) dX1_keep_4 ?_
  refine z_icmp_lt hx (tgt := 12) dX1_keep_5 (by decide) h (fun h => ⟨h, by decide⟩) (fun hc h => ?_) (fun hc h => ?_)
  · refine z_sub [0, 1] rfl ?_
    exact w_X1_keep_b12 hx hn hR hq hk σ h
  · refine z_aload_n hx 0 dX1_keep_8 rfl ?_
    obtain ⟨⟨⟩, σ1, h9, h⟩ := z_bind_some h
    refine z_callv hx (As := []) (k := 60) (met_X1_dropOldest (z_l C) (z_g C) (z_ok_sd hx) h9) (z_lt0 (z_ok_sd hx) (by decide)) (z_kb60 (z_ok_sd hx) _) rfl rfl cv_X1_22 (z_room hR ⟨Nat.le_of_ble_eq_true rfl, Nat.le_of_ble_eq_true rfl⟩) ⟨rfl, rfl⟩ rfl rfl (Nat.le_of_ble_eq_true rfl) dX1_keep_9 ?_
    refine z_sub [0, 1] rfl ?_
    exact w_X1_keep_b12 hx hn hR hq hk σ1 h

theorem met_X1_keep (l : Launch) (g : zG) (hg : g.1 = 0) {k : Nat} (hk : k < 6) {σ : zS} {rr : Unit × zS} (h : f_X1_keep k σ = some rr) : z_Met l yX1_keep cX1_keep 2 none rm_X1_keep g [.ref (z_ad (g) 60), .ref (z_ad (g) (8 * k))] σ (z_QV g rr.2) := by
  refine z_enter (own := RX1) (sd := 0) (lv0 := [(0, .ref (z_ad (g) 60)), (1, .ref (z_ad (g) (8 * k)))]) (by decide) rfl (Nat.le_of_ble_eq_true rfl) hg rfl (fun C hx hl hgC hR hn hq => ?_)
  subst hgC
  refine z_sub [0, 1] rfl ?_
  exact w_X1_keep hx hn hR hq hk σ h
theorem dX1_restoreLatest_0 : decode cX1_restoreLatest 0 = .ok (.aload_n 0, 1) := by decide +kernel
theorem dX1_restoreLatest_1 : decode cX1_restoreLatest 1 = .ok (.getfield 17, 3) := by decide +kernel
theorem dX1_restoreLatest_4 : decode cX1_restoreLatest 4 = .ok (.ifCond .le 26, 3) := by decide +kernel
theorem dX1_restoreLatest_7 : decode cX1_restoreLatest 7 = .ok (.aload_n 0, 1) := by decide +kernel
theorem dX1_restoreLatest_8 : decode cX1_restoreLatest 8 = .ok (.dup, 1) := by decide +kernel
theorem dX1_restoreLatest_9 : decode cX1_restoreLatest 9 = .ok (.getfield 17, 3) := by decide +kernel
theorem dX1_restoreLatest_12 : decode cX1_restoreLatest 12 = .ok (.iconst 1, 1) := by decide +kernel
theorem dX1_restoreLatest_13 : decode cX1_restoreLatest 13 = .ok (.isub, 1) := by decide +kernel
theorem dX1_restoreLatest_14 : decode cX1_restoreLatest 14 = .ok (.putfield 17, 3) := by decide +kernel
theorem dX1_restoreLatest_17 : decode cX1_restoreLatest 17 = .ok (.aload_n 1, 1) := by decide +kernel
theorem dX1_restoreLatest_18 : decode cX1_restoreLatest 18 = .ok (.aload_n 0, 1) := by decide +kernel
theorem dX1_restoreLatest_19 : decode cX1_restoreLatest 19 = .ok (.getfield 11, 3) := by decide +kernel
theorem dX1_restoreLatest_22 : decode cX1_restoreLatest 22 = .ok (.aload_n 0, 1) := by decide +kernel
theorem dX1_restoreLatest_23 : decode cX1_restoreLatest 23 = .ok (.getfield 17, 3) := by decide +kernel
theorem dX1_restoreLatest_26 : decode cX1_restoreLatest 26 = .ok (.aaload, 1) := by decide +kernel
theorem dX1_restoreLatest_27 : decode cX1_restoreLatest 27 = .ok (.invokevirtual 25, 3) := by decide +kernel
theorem dX1_restoreLatest_30 : decode cX1_restoreLatest 30 = .ok (.return_, 1) := by decide +kernel
abbrev rm_X1_restoreLatest : Room := { frames := 3, cells := 0, slots := 0, locals := 103 }
theorem w_X1_restoreLatest_b30 {C : zC} (hx : z_ok C cX1_restoreLatest RX1 0) (hn : z_nL C = 2) (hR : z_R C = rm_X1_restoreLatest) {rr : Unit × zS} (hq : z_fin C none (z_QV (z_g C) rr.2)) {k : Nat} (hk : k < 6) (σ : zS) (h : f_X1_restoreLatest_b30 k σ = some rr) : z_W C σ 30 [] [] := by
  unfold f_X1_restoreLatest_b30 at h
  cases h
  exact z_vret hx hq dX1_restoreLatest_30

theorem w_X1_restoreLatest {C : zC} (hx : z_ok C cX1_restoreLatest RX1 0) (hn : z_nL C = 2) (hR : z_R C = rm_X1_restoreLatest) {rr : Unit × zS} (hq : z_fin C none (z_QV (z_g C) rr.2)) {k : Nat} (hk : k < 6) (σ : zS) (h : f_X1_restoreLatest k σ = some rr) : z_W C σ 0 [(0, .ref (z_ad (z_g C) 60)), (1, .ref (z_ad (z_g C) (8 * k)))] [] := by
  unfold f_X1_restoreLatest at h
  refine z_aload_n hx 0 dX1_restoreLatest_0 rfl ?_
  refine gf_X1_count hx wf_X1_17 dX1_restoreLatest_1 ?_
  refine z_if_le hx (tgt := 30) dX1_restoreLatest_4 (by decide) h (fun h => h) (fun hc h => ?_) (fun hc h => ?_)
  · refine z_sub [] rfl ?_
    exact w_X1_restoreLatest_b30 hx hn hR hq hk σ h
  · refine z_aload_n hx 0 dX1_restoreLatest_7 rfl ?_
    refine z_dup hx dX1_restoreLatest_8 rfl ?_
    refine gf_X1_count hx wf_X1_17 dX1_restoreLatest_9 ?_
    refine z_iconst hx (n := 1) dX1_restoreLatest_12 ?_
    refine z_isub hx dX1_restoreLatest_13 ?_
    refine pf_X1_count hx wf_X1_17 dX1_restoreLatest_14 h (fun σ1 h => ?_)
    refine z_aload_n hx 1 dX1_restoreLatest_17 rfl ?_
    refine z_aload_n hx 0 dX1_restoreLatest_18 rfl ?_
    refine gf_X1_states hx wf_X1_11 dX1_restoreLatest_19 ?_
    refine z_aload_n hx 0 dX1_restoreLatest_22 rfl ?_
    refine gf_X1_count hx wf_X1_17 dX1_restoreLatest_23 ?_
    refine z_aald hx dX1_restoreLatest_26 h (fun h hr26 => ?_)
    obtain ⟨⟨⟩, σ2, h27, h⟩ := z_bind_some h
    refine z_callv hx (As := [.ref (z_ad (z_g C) (8 * (σ1 61 (σ1 60 1)).toNat))]) (k := 8 * k) (met_X2_copyAll (z_l C) (z_g C) (z_ok_sd hx) hk hr26 h27) (z_lt0 (z_ok_sd hx) (by have := hk; omega)) (z_ka0 (z_ok_sd hx) hk _) rfl rfl cv_X1_25 (z_room hR ⟨Nat.le_of_ble_eq_true rfl, Nat.le_of_ble_eq_true rfl⟩) ⟨rfl, rfl⟩ rfl rfl (Nat.le_of_ble_eq_true rfl) dX1_restoreLatest_27 ?_
    refine z_sub [] rfl ?_
    exact w_X1_restoreLatest_b30 hx hn hR hq hk σ2 h

theorem met_X1_restoreLatest (l : Launch) (g : zG) (hg : g.1 = 0) {k : Nat} (hk : k < 6) {σ : zS} {rr : Unit × zS} (h : f_X1_restoreLatest k σ = some rr) : z_Met l yX1_restoreLatest cX1_restoreLatest 2 none rm_X1_restoreLatest g [.ref (z_ad (g) 60), .ref (z_ad (g) (8 * k))] σ (z_QV g rr.2) := by
  refine z_enter (own := RX1) (sd := 0) (lv0 := [(0, .ref (z_ad (g) 60)), (1, .ref (z_ad (g) (8 * k)))]) (by decide) rfl (Nat.le_of_ble_eq_true rfl) hg rfl (fun C hx hl hgC hR hn hq => ?_)
  subst hgC
  refine z_sub [0, 1] rfl ?_
  exact w_X1_restoreLatest hx hn hR hq hk σ h
