/-! walks, by program: the reference -/
theorem dX6_in_0 : decode cX6_in 0 = .ok (.iload_n 0, 1) := by decide +kernel
theorem dX6_in_1 : decode cX6_in 1 = .ok (.iload_n 1, 1) := by decide +kernel
theorem dX6_in_2 : decode cX6_in 2 = .ok (.if_icmp .lt 12, 3) := by decide +kernel
theorem dX6_in_5 : decode cX6_in 5 = .ok (.iload_n 0, 1) := by decide +kernel
theorem dX6_in_6 : decode cX6_in 6 = .ok (.iload_n 2, 1) := by decide +kernel
theorem dX6_in_7 : decode cX6_in 7 = .ok (.if_icmp .gt 7, 3) := by decide +kernel
theorem dX6_in_10 : decode cX6_in 10 = .ok (.iconst 1, 1) := by decide +kernel
theorem dX6_in_11 : decode cX6_in 11 = .ok (.goto 4, 3) := by decide +kernel
theorem dX6_in_14 : decode cX6_in 14 = .ok (.iconst 0, 1) := by decide +kernel
theorem dX6_in_15 : decode cX6_in 15 = .ok (.ireturn, 1) := by decide +kernel
abbrev rm_X6_in : Room := { frames := 0, cells := 0, slots := 0, locals := 0 }
theorem w_X6_in_b15 {C : zC} (hx : z_ok C cX6_in RX6 1) (hn : z_nL C = 3) (hR : z_R C = rm_X6_in) {rr : Int × zS} (hq : z_fin C (some .boolean) (z_QI (z_g C) rr.1 rr.2)) (σ : zS) (s0 : Int) (h : f_X6_in_b15 σ s0 = some rr) : z_W C σ 15 [] [.int (zi s0)] := by
  unfold f_X6_in_b15 at h
  obtain ⟨hz, h⟩ := z_gd h
  cases h
  exact z_zret hx hz hq dX6_in_15

theorem w_X6_in_b14 {C : zC} (hx : z_ok C cX6_in RX6 1) (hn : z_nL C = 3) (hR : z_R C = rm_X6_in) {rr : Int × zS} (hq : z_fin C (some .boolean) (z_QI (z_g C) rr.1 rr.2)) (σ : zS) (h : f_X6_in_b14 σ = some rr) : z_W C σ 14 [] [] := by
  unfold f_X6_in_b14 at h
  refine z_iconst hx (n := 0) dX6_in_14 ?_
  refine z_sub [] rfl ?_
  exact w_X6_in_b15 hx hn hR hq σ 0 h

theorem w_X6_in {C : zC} (hx : z_ok C cX6_in RX6 1) (hn : z_nL C = 3) (hR : z_R C = rm_X6_in) {rr : Int × zS} (hq : z_fin C (some .boolean) (z_QI (z_g C) rr.1 rr.2)) (σ : zS) (x0 : Int) (x1 : Int) (x2 : Int) (h : f_X6_in σ x0 x1 x2 = some rr) : z_W C σ 0 [(0, .int (zi x0)), (1, .int (zi x1)), (2, .int (zi x2))] [] := by
  unfold f_X6_in at h
  refine z_iload_n hx 0 dX6_in_0 rfl ?_
  refine z_iload_n hx 1 dX6_in_1 rfl ?_
  refine z_icmp_lt hx (tgt := 14) dX6_in_2 (by decide) h (fun h => h) (fun hc h => ?_) (fun hc h => ?_)
  · refine z_sub [] rfl ?_
    exact w_X6_in_b14 hx hn hR hq σ h
  · refine z_iload_n hx 0 dX6_in_5 rfl ?_
    refine z_iload_n hx 2 dX6_in_6 rfl ?_
    refine z_icmp_gt hx (tgt := 14) dX6_in_7 (by decide) h (fun h => h) (fun hc h => ?_) (fun hc h => ?_)
    · refine z_sub [] rfl ?_
      exact w_X6_in_b14 hx hn hR hq σ h
    · refine z_iconst hx (n := 1) dX6_in_10 ?_
      refine z_goto hx (tgt := 15) dX6_in_11 (by decide) ?_
      refine z_sub [] rfl ?_
      exact w_X6_in_b15 hx hn hR hq σ 1 h

theorem met_X6_in (l : Launch) (g : zG) (hg : g.1 = 1) {σ : zS} {x0 : Int} {x1 : Int} {x2 : Int} {rr : Int × zS} (h : f_X6_in σ x0 x1 x2 = some rr) : z_Met l yX6_in cX6_in 3 (some .boolean) rm_X6_in g [.int (zi x0), .int (zi x1), .int (zi x2)] σ (z_QI g rr.1 rr.2) := by
  refine z_enter (own := RX6) (sd := 1) (lv0 := [(0, .int (zi x0)), (1, .int (zi x1)), (2, .int (zi x2))]) (by decide) rfl (Nat.le_of_ble_eq_true rfl) hg rfl (fun C hx hl hgC hR hn hq => ?_)
  subst hgC
  refine z_sub [0, 1, 2] rfl ?_
  exact w_X6_in hx hn hR hq σ x0 x1 x2 h
theorem dX6_act_0 : decode cX6_act 0 = .ok (.aload_n 0, 1) := by decide +kernel
theorem dX6_act_1 : decode cX6_act 1 = .ok (.getfield 37, 3) := by decide +kernel
theorem dX6_act_4 : decode cX6_act 4 = .ok (.iconst 4, 1) := by decide +kernel
theorem dX6_act_5 : decode cX6_act 5 = .ok (.if_icmp .ne 44, 3) := by decide +kernel
theorem dX6_act_8 : decode cX6_act 8 = .ok (.iconst 0, 1) := by decide +kernel
theorem dX6_act_9 : decode cX6_act 9 = .ok (.istore_n 1, 1) := by decide +kernel
theorem dX6_act_10 : decode cX6_act 10 = .ok (.iload_n 1, 1) := by decide +kernel
theorem dX6_act_11 : decode cX6_act 11 = .ok (.sipush 960, 3) := by decide +kernel
theorem dX6_act_14 : decode cX6_act 14 = .ok (.if_icmp .ge 25, 3) := by decide +kernel
theorem dX6_act_17 : decode cX6_act 17 = .ok (.aload_n 0, 1) := by decide +kernel
theorem dX6_act_18 : decode cX6_act 18 = .ok (.getfield 13, 3) := by decide +kernel
theorem dX6_act_21 : decode cX6_act 21 = .ok (.iload_n 1, 1) := by decide +kernel
theorem dX6_act_22 : decode cX6_act 22 = .ok (.aload_n 0, 1) := by decide +kernel
theorem dX6_act_23 : decode cX6_act 23 = .ok (.getfield 13, 3) := by decide +kernel
theorem dX6_act_26 : decode cX6_act 26 = .ok (.iload_n 1, 1) := by decide +kernel
theorem dX6_act_27 : decode cX6_act 27 = .ok (.sipush 320, 3) := by decide +kernel
theorem dX6_act_30 : decode cX6_act 30 = .ok (.iadd, 1) := by decide +kernel
theorem dX6_act_31 : decode cX6_act 31 = .ok (.iaload, 1) := by decide +kernel
theorem dX6_act_32 : decode cX6_act 32 = .ok (.iastore, 1) := by decide +kernel
theorem dX6_act_33 : decode cX6_act 33 = .ok (.iinc 1 1, 3) := by decide +kernel
theorem dX6_act_36 : decode cX6_act 36 = .ok (.goto (-26), 3) := by decide +kernel
theorem dX6_act_39 : decode cX6_act 39 = .ok (.aload_n 0, 1) := by decide +kernel
theorem dX6_act_40 : decode cX6_act 40 = .ok (.dup, 1) := by decide +kernel
theorem dX6_act_41 : decode cX6_act 41 = .ok (.getfield 37, 3) := by decide +kernel
theorem dX6_act_44 : decode cX6_act 44 = .ok (.iconst 1, 1) := by decide +kernel
theorem dX6_act_45 : decode cX6_act 45 = .ok (.isub, 1) := by decide +kernel
theorem dX6_act_46 : decode cX6_act 46 = .ok (.putfield 37, 3) := by decide +kernel
theorem dX6_act_49 : decode cX6_act 49 = .ok (.iconst 0, 1) := by decide +kernel
theorem dX6_act_50 : decode cX6_act 50 = .ok (.istore_n 1, 1) := by decide +kernel
theorem dX6_act_51 : decode cX6_act 51 = .ok (.iload_n 1, 1) := by decide +kernel
theorem dX6_act_52 : decode cX6_act 52 = .ok (.sipush 320, 3) := by decide +kernel
theorem dX6_act_55 : decode cX6_act 55 = .ok (.if_icmp .ge 30, 3) := by decide +kernel
theorem dX6_act_58 : decode cX6_act 58 = .ok (.aload_n 0, 1) := by decide +kernel
theorem dX6_act_59 : decode cX6_act 59 = .ok (.getfield 13, 3) := by decide +kernel
theorem dX6_act_62 : decode cX6_act 62 = .ok (.sipush 320, 3) := by decide +kernel
theorem dX6_act_65 : decode cX6_act 65 = .ok (.aload_n 0, 1) := by decide +kernel
theorem dX6_act_66 : decode cX6_act 66 = .ok (.getfield 37, 3) := by decide +kernel
theorem dX6_act_69 : decode cX6_act 69 = .ok (.imul, 1) := by decide +kernel
theorem dX6_act_70 : decode cX6_act 70 = .ok (.iload_n 1, 1) := by decide +kernel
theorem dX6_act_71 : decode cX6_act 71 = .ok (.iadd, 1) := by decide +kernel
theorem dX6_act_72 : decode cX6_act 72 = .ok (.aload_n 0, 1) := by decide +kernel
theorem dX6_act_73 : decode cX6_act 73 = .ok (.getfield 7, 3) := by decide +kernel
theorem dX6_act_76 : decode cX6_act 76 = .ok (.iload_n 1, 1) := by decide +kernel
theorem dX6_act_77 : decode cX6_act 77 = .ok (.iaload, 1) := by decide +kernel
theorem dX6_act_78 : decode cX6_act 78 = .ok (.iastore, 1) := by decide +kernel
theorem dX6_act_79 : decode cX6_act 79 = .ok (.iinc 1 1, 3) := by decide +kernel
theorem dX6_act_82 : decode cX6_act 82 = .ok (.goto (-31), 3) := by decide +kernel
theorem dX6_act_85 : decode cX6_act 85 = .ok (.aload_n 0, 1) := by decide +kernel
theorem dX6_act_86 : decode cX6_act 86 = .ok (.dup, 1) := by decide +kernel
theorem dX6_act_87 : decode cX6_act 87 = .ok (.getfield 37, 3) := by decide +kernel
theorem dX6_act_90 : decode cX6_act 90 = .ok (.iconst 1, 1) := by decide +kernel
theorem dX6_act_91 : decode cX6_act 91 = .ok (.iadd, 1) := by decide +kernel
theorem dX6_act_92 : decode cX6_act 92 = .ok (.putfield 37, 3) := by decide +kernel
theorem dX6_act_95 : decode cX6_act 95 = .ok (.return_, 1) := by decide +kernel
abbrev rm_X6_act : Room := { frames := 0, cells := 0, slots := 0, locals := 0 }
theorem w_X6_act_b51 {C : zC} (hx : z_ok C cX6_act RX6 1) (hn : z_nL C = 2) (hR : z_R C = rm_X6_act) {rr : Unit × zS} (hq : z_fin C none (z_QV (z_g C) rr.2)) {K51 : zS → Int → Option (Unit × zS)} (hK51 : ∀ (σ : zS) (x1 : Int) , K51 σ x1 = some rr → z_W C σ 51 [(0, .ref (z_ad (z_g C) 0)), (1, .int (zi x1))] []) (σ : zS) (x1 : Int) (h : f_X6_act_b51 K51 σ x1 = some rr) : z_W C σ 51 [(0, .ref (z_ad (z_g C) 0)), (1, .int (zi x1))] [] := by
  unfold f_X6_act_b51 at h
  refine z_iload_n hx 1 dX6_act_51 rfl ?_
  refine z_sipush hx (n := 320) dX6_act_52 rfl ?_
  refine z_icmp_ge hx (tgt := 85) dX6_act_55 (by decide) h (fun h => ⟨h, by decide⟩) (fun hc h => ?_) (fun hc h => ?_)
  · refine z_aload_n hx 0 dX6_act_85 rfl ?_
    refine z_dup hx dX6_act_86 rfl ?_
    refine gf_X6_pastMany hx wf_X6_37 dX6_act_87 ?_
    refine z_iconst hx (n := 1) dX6_act_90 ?_
    refine z_iadd hx dX6_act_91 ?_
    refine pf_X6_pastMany hx wf_X6_37 dX6_act_92 h (fun σ1 h => ?_)
    cases h
    exact z_vret hx hq dX6_act_95
  · refine z_aload_n hx 0 dX6_act_58 rfl ?_
    refine gf_X6_past hx wf_X6_13 dX6_act_59 ?_
    refine z_sipush hx (n := 320) dX6_act_62 rfl ?_
    refine z_aload_n hx 0 dX6_act_65 rfl ?_
    refine gf_X6_pastMany hx wf_X6_37 dX6_act_66 ?_
    refine z_imul hx dX6_act_69 ?_
    refine z_iload_n hx 1 dX6_act_70 rfl ?_
    refine z_iadd hx dX6_act_71 ?_
    refine z_aload_n hx 0 dX6_act_72 rfl ?_
    refine gf_X6_v hx wf_X6_7 dX6_act_73 ?_
    refine z_iload_n hx 1 dX6_act_76 rfl ?_
    refine z_iald hx (n := 320) (z_lt1 (z_ok_sd hx) (by decide)) (z_kc1 (z_ok_sd hx) _) rfl (by decide) dX6_act_77 h (fun h => ?_)
    refine z_iast hx (n := 1280) (z_lt1 (z_ok_sd hx) (by decide)) (z_kc2 (z_ok_sd hx)) rfl (by decide) dX6_act_78 h (fun σ2 h => ?_)
    refine z_iinc hx hn 1 (lv' := [(1, .int (zi (x1 + 1))), (0, .ref (z_ad (z_g C) 0))]) dX6_act_79 rfl (by decide) rfl ?_
    refine z_goto hx (tgt := 51) dX6_act_82 (by decide) ?_
    refine z_sub [1, 0] rfl ?_
    exact hK51 σ2 (x1 + 1) h

theorem w_X6_act_l51 {C : zC} (hx : z_ok C cX6_act RX6 1) (hn : z_nL C = 2) (hR : z_R C = rm_X6_act) {rr : Unit × zS} (hq : z_fin C none (z_QV (z_g C) rr.2)) : ∀ (n : Nat) (σ : zS) (x1 : Int) (_ : f_X6_act_l51 n σ x1 = some rr), z_W C σ 51 [(0, .ref (z_ad (z_g C) 0)), (1, .int (zi x1))] [] := by
  intro n
  induction n with
  | zero => intro σ x1 h; cases h
  | succ n ih =>
    intro σ x1 h
    exact w_X6_act_b51 hx hn hR hq ih σ x1 h
theorem w_X6_act_b49 {C : zC} (hx : z_ok C cX6_act RX6 1) (hn : z_nL C = 2) (hR : z_R C = rm_X6_act) {rr : Unit × zS} (hq : z_fin C none (z_QV (z_g C) rr.2)) (σ : zS) (h : f_X6_act_b49 σ = some rr) : z_W C σ 49 [(0, .ref (z_ad (z_g C) 0))] [] := by
  unfold f_X6_act_b49 at h
  refine z_iconst hx (n := 0) dX6_act_49 ?_
  refine z_istore_n hx hn (lv' := [(1, .int (zi 0)), (0, .ref (z_ad (z_g C) 0))]) dX6_act_50 (by decide) rfl ?_
  refine z_sub [1, 0] rfl ?_
  exact w_X6_act_l51 hx hn hR hq z_fuel σ 0 h

theorem w_X6_act_b10 {C : zC} (hx : z_ok C cX6_act RX6 1) (hn : z_nL C = 2) (hR : z_R C = rm_X6_act) {rr : Unit × zS} (hq : z_fin C none (z_QV (z_g C) rr.2)) {K10 : zS → Int → Option (Unit × zS)} (hK10 : ∀ (σ : zS) (x1 : Int) , K10 σ x1 = some rr → z_W C σ 10 [(0, .ref (z_ad (z_g C) 0)), (1, .int (zi x1))] []) (σ : zS) (x1 : Int) (h : f_X6_act_b10 K10 σ x1 = some rr) : z_W C σ 10 [(0, .ref (z_ad (z_g C) 0)), (1, .int (zi x1))] [] := by
  unfold f_X6_act_b10 at h
  refine z_iload_n hx 1 dX6_act_10 rfl ?_
  refine z_sipush hx (n := 960) dX6_act_11 rfl ?_
  refine z_icmp_ge hx (tgt := 39) dX6_act_14 (by decide) h (fun h => ⟨h, by decide⟩) (fun hc h => ?_) (fun hc h => ?_)
  · refine z_aload_n hx 0 dX6_act_39 rfl ?_
    refine z_dup hx dX6_act_40 rfl ?_
    refine gf_X6_pastMany hx wf_X6_37 dX6_act_41 ?_
    refine z_iconst hx (n := 1) dX6_act_44 ?_
    refine z_isub hx dX6_act_45 ?_
    refine pf_X6_pastMany hx wf_X6_37 dX6_act_46 h (fun σ1 h => ?_)
    refine z_sub [0] rfl ?_
    exact w_X6_act_b49 hx hn hR hq σ1 h
  · refine z_aload_n hx 0 dX6_act_17 rfl ?_
    refine gf_X6_past hx wf_X6_13 dX6_act_18 ?_
    refine z_iload_n hx 1 dX6_act_21 rfl ?_
    refine z_aload_n hx 0 dX6_act_22 rfl ?_
    refine gf_X6_past hx wf_X6_13 dX6_act_23 ?_
    refine z_iload_n hx 1 dX6_act_26 rfl ?_
    refine z_sipush hx (n := 320) dX6_act_27 rfl ?_
    refine z_iadd hx dX6_act_30 ?_
    refine z_iald hx (n := 1280) (z_lt1 (z_ok_sd hx) (by decide)) (z_kc2 (z_ok_sd hx) _) rfl (by decide) dX6_act_31 h (fun h => ?_)
    refine z_iast hx (n := 1280) (z_lt1 (z_ok_sd hx) (by decide)) (z_kc2 (z_ok_sd hx)) rfl (by decide) dX6_act_32 h (fun σ2 h => ?_)
    refine z_iinc hx hn 1 (lv' := [(1, .int (zi (x1 + 1))), (0, .ref (z_ad (z_g C) 0))]) dX6_act_33 rfl (by decide) rfl ?_
    refine z_goto hx (tgt := 10) dX6_act_36 (by decide) ?_
    refine z_sub [1, 0] rfl ?_
    exact hK10 σ2 (x1 + 1) h

theorem w_X6_act_l10 {C : zC} (hx : z_ok C cX6_act RX6 1) (hn : z_nL C = 2) (hR : z_R C = rm_X6_act) {rr : Unit × zS} (hq : z_fin C none (z_QV (z_g C) rr.2)) : ∀ (n : Nat) (σ : zS) (x1 : Int) (_ : f_X6_act_l10 n σ x1 = some rr), z_W C σ 10 [(0, .ref (z_ad (z_g C) 0)), (1, .int (zi x1))] [] := by
  intro n
  induction n with
  | zero => intro σ x1 h; cases h
  | succ n ih =>
    intro σ x1 h
    exact w_X6_act_b10 hx hn hR hq ih σ x1 h
theorem w_X6_act {C : zC} (hx : z_ok C cX6_act RX6 1) (hn : z_nL C = 2) (hR : z_R C = rm_X6_act) {rr : Unit × zS} (hq : z_fin C none (z_QV (z_g C) rr.2)) (σ : zS) (h : f_X6_act σ = some rr) : z_W C σ 0 [(0, .ref (z_ad (z_g C) 0))] [] := by
  unfold f_X6_act at h
  refine z_aload_n hx 0 dX6_act_0 rfl ?_
  refine gf_X6_pastMany hx wf_X6_37 dX6_act_1 ?_
  refine z_iconst hx (n := 4) dX6_act_4 ?_
  refine z_icmp_ne hx (tgt := 49) dX6_act_5 (by decide) h (fun h => ⟨h, by decide⟩) (fun hc h => ?_) (fun hc h => ?_)
  · refine z_sub [0] rfl ?_
    exact w_X6_act_b49 hx hn hR hq σ h
  · refine z_iconst hx (n := 0) dX6_act_8 ?_
    refine z_istore_n hx hn (lv' := [(1, .int (zi 0)), (0, .ref (z_ad (z_g C) 0))]) dX6_act_9 (by decide) rfl ?_
    refine z_sub [1, 0] rfl ?_
    exact w_X6_act_l10 hx hn hR hq z_fuel σ 0 h

theorem met_X6_act (l : Launch) (g : zG) (hg : g.1 = 1) {σ : zS} {rr : Unit × zS} (h : f_X6_act σ = some rr) : z_Met l yX6_act cX6_act 2 none rm_X6_act g [.ref (z_ad (g) 0)] σ (z_QV g rr.2) := by
  refine z_enter (own := RX6) (sd := 1) (lv0 := [(0, .ref (z_ad (g) 0))]) (by decide) rfl (Nat.le_of_ble_eq_true rfl) hg rfl (fun C hx hl hgC hR hn hq => ?_)
  subst hgC
  refine z_sub [0] rfl ?_
  exact w_X6_act hx hn hR hq σ h
theorem dX6_levelAt_0 : decode cX6_levelAt 0 = .ok (.iload_n 1, 1) := by decide +kernel
theorem dX6_levelAt_1 : decode cX6_levelAt 1 = .ok (.iconst 0, 1) := by decide +kernel
theorem dX6_levelAt_2 : decode cX6_levelAt 2 = .ok (.aload_n 0, 1) := by decide +kernel
theorem dX6_levelAt_3 : decode cX6_levelAt 3 = .ok (.getfield 7, 3) := by decide +kernel
theorem dX6_levelAt_6 : decode cX6_levelAt 6 = .ok (.bipush 7, 2) := by decide +kernel
theorem dX6_levelAt_8 : decode cX6_levelAt 8 = .ok (.iaload, 1) := by decide +kernel
theorem dX6_levelAt_9 : decode cX6_levelAt 9 = .ok (.iconst 1, 1) := by decide +kernel
theorem dX6_levelAt_10 : decode cX6_levelAt 10 = .ok (.isub, 1) := by decide +kernel
theorem dX6_levelAt_11 : decode cX6_levelAt 11 = .ok (.invokestatic 41, 3) := by decide +kernel
theorem dX6_levelAt_14 : decode cX6_levelAt 14 = .ok (.ifCond .eq 15, 3) := by decide +kernel
theorem dX6_levelAt_17 : decode cX6_levelAt 17 = .ok (.aload_n 0, 1) := by decide +kernel
theorem dX6_levelAt_18 : decode cX6_levelAt 18 = .ok (.getfield 7, 3) := by decide +kernel
theorem dX6_levelAt_21 : decode cX6_levelAt 21 = .ok (.bipush 10, 2) := by decide +kernel
theorem dX6_levelAt_23 : decode cX6_levelAt 23 = .ok (.iload_n 1, 1) := by decide +kernel
theorem dX6_levelAt_24 : decode cX6_levelAt 24 = .ok (.iadd, 1) := by decide +kernel
theorem dX6_levelAt_25 : decode cX6_levelAt 25 = .ok (.iaload, 1) := by decide +kernel
theorem dX6_levelAt_26 : decode cX6_levelAt 26 = .ok (.goto 4, 3) := by decide +kernel
theorem dX6_levelAt_29 : decode cX6_levelAt 29 = .ok (.iconst 0, 1) := by decide +kernel
theorem dX6_levelAt_30 : decode cX6_levelAt 30 = .ok (.ireturn, 1) := by decide +kernel
abbrev rm_X6_levelAt : Room := { frames := 1, cells := 0, slots := 0, locals := 22 }
theorem w_X6_levelAt_b30 {C : zC} (hx : z_ok C cX6_levelAt RX6 1) (hn : z_nL C = 2) (hR : z_R C = rm_X6_levelAt) {rr : Int × zS} (hq : z_fin C (some .int) (z_QI (z_g C) rr.1 rr.2)) (σ : zS) (s0 : Int) (h : f_X6_levelAt_b30 σ s0 = some rr) : z_W C σ 30 [] [.int (zi s0)] := by
  unfold f_X6_levelAt_b30 at h
  cases h
  exact z_iret hx hq dX6_levelAt_30

theorem w_X6_levelAt {C : zC} (hx : z_ok C cX6_levelAt RX6 1) (hn : z_nL C = 2) (hR : z_R C = rm_X6_levelAt) {rr : Int × zS} (hq : z_fin C (some .int) (z_QI (z_g C) rr.1 rr.2)) (σ : zS) (x1 : Int) (h : f_X6_levelAt σ x1 = some rr) : z_W C σ 0 [(0, .ref (z_ad (z_g C) 0)), (1, .int (zi x1))] [] := by
  unfold f_X6_levelAt at h
  refine z_iload_n hx 1 dX6_levelAt_0 rfl ?_
  refine z_iconst hx (n := 0) dX6_levelAt_1 ?_
  refine z_aload_n hx 0 dX6_levelAt_2 rfl ?_
  refine gf_X6_v hx wf_X6_7 dX6_levelAt_3 ?_
  refine z_bipush hx (n := 7) dX6_levelAt_6 rfl ?_
  refine z_iald hx (n := 320) (z_lt1 (z_ok_sd hx) (by decide)) (z_kc1 (z_ok_sd hx) _) rfl (by decide) dX6_levelAt_8 h (fun h => ?_)
  refine z_iconst hx (n := 1) dX6_levelAt_9 ?_
  refine z_isub hx dX6_levelAt_10 ?_
  obtain ⟨r2, σ1, h11, h⟩ := z_bind_some h
  refine z_calls hx (As := [.int (zi x1), .int (zi 0), .int (zi ((σ 1 7) - 1))]) (met_X6_in (z_l C) (z_g C) (z_ok_sd hx) h11) cv_X6_41 (z_room hR ⟨Nat.le_of_ble_eq_true rfl, Nat.le_of_ble_eq_true rfl⟩) ⟨rfl, rfl⟩ rfl rfl (Nat.le_of_ble_eq_true rfl) dX6_levelAt_11 ?_
  refine z_if_eq hx (tgt := 29) dX6_levelAt_14 (by decide) h (fun h => h) (fun hc h => ?_) (fun hc h => ?_)
  · refine z_iconst hx (n := 0) dX6_levelAt_29 ?_
    refine z_sub [] rfl ?_
    exact w_X6_levelAt_b30 hx hn hR hq σ1 0 h
  · refine z_aload_n hx 0 dX6_levelAt_17 rfl ?_
    refine gf_X6_v hx wf_X6_7 dX6_levelAt_18 ?_
    refine z_bipush hx (n := 10) dX6_levelAt_21 rfl ?_
    refine z_iload_n hx 1 dX6_levelAt_23 rfl ?_
    refine z_iadd hx dX6_levelAt_24 ?_
    refine z_iald hx (n := 320) (z_lt1 (z_ok_sd hx) (by decide)) (z_kc1 (z_ok_sd hx) _) rfl (by decide) dX6_levelAt_25 h (fun h => ?_)
    refine z_goto hx (tgt := 30) dX6_levelAt_26 (by decide) ?_
    refine z_sub [] rfl ?_
    exact w_X6_levelAt_b30 hx hn hR hq σ1 (σ1 1 (10 + x1)) h

theorem met_X6_levelAt (l : Launch) (g : zG) (hg : g.1 = 1) {σ : zS} {x1 : Int} {rr : Int × zS} (h : f_X6_levelAt σ x1 = some rr) : z_Met l yX6_levelAt cX6_levelAt 2 (some .int) rm_X6_levelAt g [.ref (z_ad (g) 0), .int (zi x1)] σ (z_QI g rr.1 rr.2) := by
  refine z_enter (own := RX6) (sd := 1) (lv0 := [(0, .ref (z_ad (g) 0)), (1, .int (zi x1))]) (by decide) rfl (Nat.le_of_ble_eq_true rfl) hg rfl (fun C hx hl hgC hR hn hq => ?_)
  subst hgC
  refine z_sub [0, 1] rfl ?_
  exact w_X6_levelAt hx hn hR hq σ x1 h
theorem dX6_isQuiet_0 : decode cX6_isQuiet 0 = .ok (.aload_n 0, 1) := by decide +kernel
theorem dX6_isQuiet_1 : decode cX6_isQuiet 1 = .ok (.iload_n 1, 1) := by decide +kernel
theorem dX6_isQuiet_2 : decode cX6_isQuiet 2 = .ok (.iconst 1, 1) := by decide +kernel
theorem dX6_isQuiet_3 : decode cX6_isQuiet 3 = .ok (.isub, 1) := by decide +kernel
theorem dX6_isQuiet_4 : decode cX6_isQuiet 4 = .ok (.invokevirtual 45, 3) := by decide +kernel
theorem dX6_isQuiet_7 : decode cX6_isQuiet 7 = .ok (.aload_n 0, 1) := by decide +kernel
theorem dX6_isQuiet_8 : decode cX6_isQuiet 8 = .ok (.getfield 7, 3) := by decide +kernel
theorem dX6_isQuiet_11 : decode cX6_isQuiet 11 = .ok (.iconst 1, 1) := by decide +kernel
theorem dX6_isQuiet_12 : decode cX6_isQuiet 12 = .ok (.iaload, 1) := by decide +kernel
theorem dX6_isQuiet_13 : decode cX6_isQuiet 13 = .ok (.if_icmp .gt 21, 3) := by decide +kernel
theorem dX6_isQuiet_16 : decode cX6_isQuiet 16 = .ok (.aload_n 0, 1) := by decide +kernel
theorem dX6_isQuiet_17 : decode cX6_isQuiet 17 = .ok (.iload_n 1, 1) := by decide +kernel
theorem dX6_isQuiet_18 : decode cX6_isQuiet 18 = .ok (.invokevirtual 45, 3) := by decide +kernel
theorem dX6_isQuiet_21 : decode cX6_isQuiet 21 = .ok (.aload_n 0, 1) := by decide +kernel
theorem dX6_isQuiet_22 : decode cX6_isQuiet 22 = .ok (.getfield 7, 3) := by decide +kernel
theorem dX6_isQuiet_25 : decode cX6_isQuiet 25 = .ok (.iconst 1, 1) := by decide +kernel
theorem dX6_isQuiet_26 : decode cX6_isQuiet 26 = .ok (.iaload, 1) := by decide +kernel
theorem dX6_isQuiet_27 : decode cX6_isQuiet 27 = .ok (.if_icmp .gt 7, 3) := by decide +kernel
theorem dX6_isQuiet_30 : decode cX6_isQuiet 30 = .ok (.iconst 1, 1) := by decide +kernel
theorem dX6_isQuiet_31 : decode cX6_isQuiet 31 = .ok (.goto 4, 3) := by decide +kernel
theorem dX6_isQuiet_34 : decode cX6_isQuiet 34 = .ok (.iconst 0, 1) := by decide +kernel
theorem dX6_isQuiet_35 : decode cX6_isQuiet 35 = .ok (.ireturn, 1) := by decide +kernel
abbrev rm_X6_isQuiet : Room := { frames := 2, cells := 0, slots := 0, locals := 43 }
theorem w_X6_isQuiet_b35 {C : zC} (hx : z_ok C cX6_isQuiet RX6 1) (hn : z_nL C = 2) (hR : z_R C = rm_X6_isQuiet) {rr : Int × zS} (hq : z_fin C (some .boolean) (z_QI (z_g C) rr.1 rr.2)) (σ : zS) (s0 : Int) (h : f_X6_isQuiet_b35 σ s0 = some rr) : z_W C σ 35 [] [.int (zi s0)] := by
  unfold f_X6_isQuiet_b35 at h
  obtain ⟨hz, h⟩ := z_gd h
  cases h
  exact z_zret hx hz hq dX6_isQuiet_35

theorem w_X6_isQuiet_b34 {C : zC} (hx : z_ok C cX6_isQuiet RX6 1) (hn : z_nL C = 2) (hR : z_R C = rm_X6_isQuiet) {rr : Int × zS} (hq : z_fin C (some .boolean) (z_QI (z_g C) rr.1 rr.2)) (σ : zS) (h : f_X6_isQuiet_b34 σ = some rr) : z_W C σ 34 [] [] := by
  unfold f_X6_isQuiet_b34 at h
  refine z_iconst hx (n := 0) dX6_isQuiet_34 ?_
  refine z_sub [] rfl ?_
  exact w_X6_isQuiet_b35 hx hn hR hq σ 0 h

theorem w_X6_isQuiet {C : zC} (hx : z_ok C cX6_isQuiet RX6 1) (hn : z_nL C = 2) (hR : z_R C = rm_X6_isQuiet) {rr : Int × zS} (hq : z_fin C (some .boolean) (z_QI (z_g C) rr.1 rr.2)) (σ : zS) (x1 : Int) (h : f_X6_isQuiet σ x1 = some rr) : z_W C σ 0 [(0, .ref (z_ad (z_g C) 0)), (1, .int (zi x1))] [] := by
  unfold f_X6_isQuiet at h
  refine z_aload_n hx 0 dX6_isQuiet_0 rfl ?_
  refine z_iload_n hx 1 dX6_isQuiet_1 rfl ?_
  refine z_iconst hx (n := 1) dX6_isQuiet_2 ?_
  refine z_isub hx dX6_isQuiet_3 ?_
  obtain ⟨r2, σ1, h4, h⟩ := z_bind_some h
  refine z_calli hx (As := [.int (zi (x1 - 1))]) (k := 0) (met_X6_levelAt (z_l C) (z_g C) (z_ok_sd hx) h4) (z_lt1 (z_ok_sd hx) (by decide)) (z_kc0 (z_ok_sd hx) _) rfl rfl cv_X6_45 (z_room hR ⟨Nat.le_of_ble_eq_true rfl, Nat.le_of_ble_eq_true rfl⟩) ⟨rfl, rfl⟩ rfl rfl (Nat.le_of_ble_eq_true rfl) dX6_isQuiet_4 ?_
  refine z_aload_n hx 0 dX6_isQuiet_7 rfl ?_
  refine gf_X6_v hx wf_X6_7 dX6_isQuiet_8 ?_
  refine z_iconst hx (n := 1) dX6_isQuiet_11 ?_
  refine z_iald hx (n := 320) (z_lt1 (z_ok_sd hx) (by decide)) (z_kc1 (z_ok_sd hx) _) rfl (by decide) dX6_isQuiet_12 h (fun h => ?_)
  refine z_icmp_gt hx (tgt := 34) dX6_isQuiet_13 (by decide) h (fun h => h) (fun hc h => ?_) (fun hc h => ?_)
  · refine z_sub [] rfl ?_
    exact w_X6_isQuiet_b34 hx hn hR hq σ1 h
  · refine z_aload_n hx 0 dX6_isQuiet_16 rfl ?_
    refine z_iload_n hx 1 dX6_isQuiet_17 rfl ?_
    obtain ⟨r4, σ3, h18, h⟩ := z_bind_some h
    refine z_calli hx (As := [.int (zi x1)]) (k := 0) (met_X6_levelAt (z_l C) (z_g C) (z_ok_sd hx) h18) (z_lt1 (z_ok_sd hx) (by decide)) (z_kc0 (z_ok_sd hx) _) rfl rfl cv_X6_45 (z_room hR ⟨Nat.le_of_ble_eq_true rfl, Nat.le_of_ble_eq_true rfl⟩) ⟨rfl, rfl⟩ rfl rfl (Nat.le_of_ble_eq_true rfl) dX6_isQuiet_18 ?_
    refine z_aload_n hx 0 dX6_isQuiet_21 rfl ?_
    refine gf_X6_v hx wf_X6_7 dX6_isQuiet_22 ?_
    refine z_iconst hx (n := 1) dX6_isQuiet_25 ?_
    refine z_iald hx (n := 320) (z_lt1 (z_ok_sd hx) (by decide)) (z_kc1 (z_ok_sd hx) _) rfl (by decide) dX6_isQuiet_26 h (fun h => ?_)
    refine z_icmp_gt hx (tgt := 34) dX6_isQuiet_27 (by decide) h (fun h => h) (fun hc h => ?_) (fun hc h => ?_)
    · refine z_sub [] rfl ?_
      exact w_X6_isQuiet_b34 hx hn hR hq σ3 h
    · refine z_iconst hx (n := 1) dX6_isQuiet_30 ?_
      refine z_goto hx (tgt := 35) dX6_isQuiet_31 (by decide) ?_
      refine z_sub [] rfl ?_
      exact w_X6_isQuiet_b35 hx hn hR hq σ3 1 h

theorem met_X6_isQuiet (l : Launch) (g : zG) (hg : g.1 = 1) {σ : zS} {x1 : Int} {rr : Int × zS} (h : f_X6_isQuiet σ x1 = some rr) : z_Met l yX6_isQuiet cX6_isQuiet 2 (some .boolean) rm_X6_isQuiet g [.ref (z_ad (g) 0), .int (zi x1)] σ (z_QI g rr.1 rr.2) := by
  refine z_enter (own := RX6) (sd := 1) (lv0 := [(0, .ref (z_ad (g) 0)), (1, .int (zi x1))]) (by decide) rfl (Nat.le_of_ble_eq_true rfl) hg rfl (fun C hx hl hgC hR hn hq => ?_)
  subst hgC
  refine z_sub [0, 1] rfl ?_
  exact w_X6_isQuiet hx hn hR hq σ x1 h
theorem dX6_of_0 : decode cX6_of 0 = .ok (.aload_n 0, 1) := by decide +kernel
theorem dX6_of_1 : decode cX6_of 1 = .ok (.getfield 7, 3) := by decide +kernel
theorem dX6_of_4 : decode cX6_of 4 = .ok (.sipush 210, 3) := by decide +kernel
theorem dX6_of_7 : decode cX6_of 7 = .ok (.iconst 5, 1) := by decide +kernel
theorem dX6_of_8 : decode cX6_of 8 = .ok (.iload_n 1, 1) := by decide +kernel
theorem dX6_of_9 : decode cX6_of 9 = .ok (.imul, 1) := by decide +kernel
theorem dX6_of_10 : decode cX6_of 10 = .ok (.iadd, 1) := by decide +kernel
theorem dX6_of_11 : decode cX6_of 11 = .ok (.iload_n 2, 1) := by decide +kernel
theorem dX6_of_12 : decode cX6_of 12 = .ok (.iadd, 1) := by decide +kernel
theorem dX6_of_13 : decode cX6_of 13 = .ok (.iaload, 1) := by decide +kernel
theorem dX6_of_14 : decode cX6_of 14 = .ok (.ireturn, 1) := by decide +kernel
abbrev rm_X6_of : Room := { frames := 0, cells := 0, slots := 0, locals := 0 }
theorem w_X6_of {C : zC} (hx : z_ok C cX6_of RX6 1) (hn : z_nL C = 3) (hR : z_R C = rm_X6_of) {rr : Int × zS} (hq : z_fin C (some .int) (z_QI (z_g C) rr.1 rr.2)) (σ : zS) (x1 : Int) (x2 : Int) (h : f_X6_of σ x1 x2 = some rr) : z_W C σ 0 [(0, .ref (z_ad (z_g C) 0)), (1, .int (zi x1)), (2, .int (zi x2))] [] := by
  unfold f_X6_of at h
  refine z_aload_n hx 0 dX6_of_0 rfl ?_
  refine gf_X6_v hx wf_X6_7 dX6_of_1 ?_
  refine z_sipush hx (n := 210) dX6_of_4 rfl ?_
  refine z_iconst hx (n := 5) dX6_of_7 ?_
  refine z_iload_n hx 1 dX6_of_8 rfl ?_
  refine z_imul hx dX6_of_9 ?_
  refine z_iadd hx dX6_of_10 ?_
  refine z_iload_n hx 2 dX6_of_11 rfl ?_
  refine z_iadd hx dX6_of_12 ?_
  refine z_iald hx (n := 320) (z_lt1 (z_ok_sd hx) (by decide)) (z_kc1 (z_ok_sd hx) _) rfl (by decide) dX6_of_13 h (fun h => ?_)
  cases h
  exact z_iret hx hq dX6_of_14

theorem met_X6_of (l : Launch) (g : zG) (hg : g.1 = 1) {σ : zS} {x1 : Int} {x2 : Int} {rr : Int × zS} (h : f_X6_of σ x1 x2 = some rr) : z_Met l yX6_of cX6_of 3 (some .int) rm_X6_of g [.ref (z_ad (g) 0), .int (zi x1), .int (zi x2)] σ (z_QI g rr.1 rr.2) := by
  refine z_enter (own := RX6) (sd := 1) (lv0 := [(0, .ref (z_ad (g) 0)), (1, .int (zi x1)), (2, .int (zi x2))]) (by decide) rfl (Nat.le_of_ble_eq_true rfl) hg rfl (fun C hx hl hgC hR hn hq => ?_)
  subst hgC
  refine z_sub [0, 1, 2] rfl ?_
  exact w_X6_of hx hn hR hq σ x1 x2 h
theorem dX6_isMark_0 : decode cX6_isMark 0 = .ok (.iload_n 1, 1) := by decide +kernel
theorem dX6_isMark_1 : decode cX6_isMark 1 = .ok (.iconst 0, 1) := by decide +kernel
theorem dX6_isMark_2 : decode cX6_isMark 2 = .ok (.aload_n 0, 1) := by decide +kernel
theorem dX6_isMark_3 : decode cX6_isMark 3 = .ok (.getfield 7, 3) := by decide +kernel
theorem dX6_isMark_6 : decode cX6_isMark 6 = .ok (.bipush 8, 2) := by decide +kernel
theorem dX6_isMark_8 : decode cX6_isMark 8 = .ok (.iaload, 1) := by decide +kernel
theorem dX6_isMark_9 : decode cX6_isMark 9 = .ok (.iconst 1, 1) := by decide +kernel
theorem dX6_isMark_10 : decode cX6_isMark 10 = .ok (.isub, 1) := by decide +kernel
theorem dX6_isMark_11 : decode cX6_isMark 11 = .ok (.invokestatic 41, 3) := by decide +kernel
theorem dX6_isMark_14 : decode cX6_isMark 14 = .ok (.ireturn, 1) := by decide +kernel
abbrev rm_X6_isMark : Room := { frames := 1, cells := 0, slots := 0, locals := 22 }
theorem w_X6_isMark {C : zC} (hx : z_ok C cX6_isMark RX6 1) (hn : z_nL C = 2) (hR : z_R C = rm_X6_isMark) {rr : Int × zS} (hq : z_fin C (some .boolean) (z_QI (z_g C) rr.1 rr.2)) (σ : zS) (x1 : Int) (h : f_X6_isMark σ x1 = some rr) : z_W C σ 0 [(0, .ref (z_ad (z_g C) 0)), (1, .int (zi x1))] [] := by
  unfold f_X6_isMark at h
  refine z_iload_n hx 1 dX6_isMark_0 rfl ?_
  refine z_iconst hx (n := 0) dX6_isMark_1 ?_
  refine z_aload_n hx 0 dX6_isMark_2 rfl ?_
  refine gf_X6_v hx wf_X6_7 dX6_isMark_3 ?_
  refine z_bipush hx (n := 8) dX6_isMark_6 rfl ?_
  refine z_iald hx (n := 320) (z_lt1 (z_ok_sd hx) (by decide)) (z_kc1 (z_ok_sd hx) _) rfl (by decide) dX6_isMark_8 h (fun h => ?_)
  refine z_iconst hx (n := 1) dX6_isMark_9 ?_
  refine z_isub hx dX6_isMark_10 ?_
  obtain ⟨r2, σ1, h11, h⟩ := z_bind_some h
  refine z_calls hx (As := [.int (zi x1), .int (zi 0), .int (zi ((σ 1 8) - 1))]) (met_X6_in (z_l C) (z_g C) (z_ok_sd hx) h11) cv_X6_41 (z_room hR ⟨Nat.le_of_ble_eq_true rfl, Nat.le_of_ble_eq_true rfl⟩) ⟨rfl, rfl⟩ rfl rfl (Nat.le_of_ble_eq_true rfl) dX6_isMark_11 ?_
  obtain ⟨hz, h⟩ := z_gd h
  cases h
  exact z_zret hx hz hq dX6_isMark_14

theorem met_X6_isMark (l : Launch) (g : zG) (hg : g.1 = 1) {σ : zS} {x1 : Int} {rr : Int × zS} (h : f_X6_isMark σ x1 = some rr) : z_Met l yX6_isMark cX6_isMark 2 (some .boolean) rm_X6_isMark g [.ref (z_ad (g) 0), .int (zi x1)] σ (z_QI g rr.1 rr.2) := by
  refine z_enter (own := RX6) (sd := 1) (lv0 := [(0, .ref (z_ad (g) 0)), (1, .int (zi x1))]) (by decide) rfl (Nat.le_of_ble_eq_true rfl) hg rfl (fun C hx hl hgC hR hn hq => ?_)
  subst hgC
  refine z_sub [0, 1] rfl ?_
  exact w_X6_isMark hx hn hR hq σ x1 h
theorem dX6_type_0 : decode cX6_type 0 = .ok (.iload_n 1, 1) := by decide +kernel
theorem dX6_type_1 : decode cX6_type 1 = .ok (.bipush 32, 2) := by decide +kernel
theorem dX6_type_3 : decode cX6_type 3 = .ok (.bipush 126, 2) := by decide +kernel
theorem dX6_type_5 : decode cX6_type 5 = .ok (.invokestatic 41, 3) := by decide +kernel
theorem dX6_type_8 : decode cX6_type 8 = .ok (.ifCond .ne 5, 3) := by decide +kernel
theorem dX6_type_11 : decode cX6_type 11 = .ok (.iconst (-1), 1) := by decide +kernel
theorem dX6_type_12 : decode cX6_type 12 = .ok (.ireturn, 1) := by decide +kernel
theorem dX6_type_13 : decode cX6_type 13 = .ok (.aload_n 0, 1) := by decide +kernel
theorem dX6_type_14 : decode cX6_type 14 = .ok (.getfield 49, 3) := by decide +kernel
theorem dX6_type_17 : decode cX6_type 17 = .ok (.bipush 120, 2) := by decide +kernel
theorem dX6_type_19 : decode cX6_type 19 = .ok (.if_icmp .ne 6, 3) := by decide +kernel
theorem dX6_type_22 : decode cX6_type 22 = .ok (.bipush (-3), 2) := by decide +kernel
theorem dX6_type_24 : decode cX6_type 24 = .ok (.ireturn, 1) := by decide +kernel
theorem dX6_type_25 : decode cX6_type 25 = .ok (.aload_n 0, 1) := by decide +kernel
theorem dX6_type_26 : decode cX6_type 26 = .ok (.getfield 16, 3) := by decide +kernel
theorem dX6_type_29 : decode cX6_type 29 = .ok (.aload_n 0, 1) := by decide +kernel
theorem dX6_type_30 : decode cX6_type 30 = .ok (.getfield 49, 3) := by decide +kernel
theorem dX6_type_33 : decode cX6_type 33 = .ok (.iload_n 1, 1) := by decide +kernel
theorem dX6_type_34 : decode cX6_type 34 = .ok (.iastore, 1) := by decide +kernel
theorem dX6_type_35 : decode cX6_type 35 = .ok (.aload_n 0, 1) := by decide +kernel
theorem dX6_type_36 : decode cX6_type 36 = .ok (.dup, 1) := by decide +kernel
theorem dX6_type_37 : decode cX6_type 37 = .ok (.getfield 49, 3) := by decide +kernel
theorem dX6_type_40 : decode cX6_type 40 = .ok (.iconst 1, 1) := by decide +kernel
theorem dX6_type_41 : decode cX6_type 41 = .ok (.iadd, 1) := by decide +kernel
theorem dX6_type_42 : decode cX6_type 42 = .ok (.putfield 49, 3) := by decide +kernel
theorem dX6_type_45 : decode cX6_type 45 = .ok (.aload_n 0, 1) := by decide +kernel
theorem dX6_type_46 : decode cX6_type 46 = .ok (.getfield 49, 3) := by decide +kernel
theorem dX6_type_49 : decode cX6_type 49 = .ok (.ireturn, 1) := by decide +kernel
abbrev rm_X6_type : Room := { frames := 1, cells := 0, slots := 0, locals := 22 }
theorem w_X6_type {C : zC} (hx : z_ok C cX6_type RX6 1) (hn : z_nL C = 2) (hR : z_R C = rm_X6_type) {rr : Int × zS} (hq : z_fin C (some .int) (z_QI (z_g C) rr.1 rr.2)) (σ : zS) (x1 : Int) (h : f_X6_type σ x1 = some rr) : z_W C σ 0 [(0, .ref (z_ad (z_g C) 0)), (1, .int (zi x1))] [] := by
  unfold f_X6_type at h
  refine z_iload_n hx 1 dX6_type_0 rfl ?_
  refine z_bipush hx (n := 32) dX6_type_1 rfl ?_
  refine z_bipush hx (n := 126) dX6_type_3 rfl ?_
  obtain ⟨r2, σ1, h5, h⟩ := z_bind_some h
  refine z_calls hx (As := [.int (zi x1), .int (zi 32), .int (zi 126)]) (met_X6_in (z_l C) (z_g C) (z_ok_sd hx) h5) cv_X6_41 (z_room hR ⟨Nat.le_of_ble_eq_true rfl, Nat.le_of_ble_eq_true rfl⟩) ⟨rfl, rfl⟩ rfl rfl (Nat.le_of_ble_eq_true rfl) dX6_type_5 ?_
  refine z_if_ne hx (tgt := 13) dX6_type_8 (by decide) h (fun h => h) (fun hc h => ?_) (fun hc h => ?_)
  · refine z_aload_n hx 0 dX6_type_13 rfl ?_
    refine gf_X6_typed hx wf_X6_49 dX6_type_14 ?_
    refine z_bipush hx (n := 120) dX6_type_17 rfl ?_
    refine z_icmp_ne hx (tgt := 25) dX6_type_19 (by decide) h (fun h => ⟨h, by decide⟩) (fun hc h => ?_) (fun hc h => ?_)
    · refine z_aload_n hx 0 dX6_type_25 rfl ?_
      refine gf_X6_text hx wf_X6_16 dX6_type_26 ?_
      refine z_aload_n hx 0 dX6_type_29 rfl ?_
      refine gf_X6_typed hx wf_X6_49 dX6_type_30 ?_
      refine z_iload_n hx 1 dX6_type_33 rfl ?_
      refine z_iast hx (n := 120) (z_lt1 (z_ok_sd hx) (by decide)) (z_kc3 (z_ok_sd hx)) rfl (by decide) dX6_type_34 h (fun σ3 h => ?_)
      refine z_aload_n hx 0 dX6_type_35 rfl ?_
      refine z_dup hx dX6_type_36 rfl ?_
      refine gf_X6_typed hx wf_X6_49 dX6_type_37 ?_
      refine z_iconst hx (n := 1) dX6_type_40 ?_
      refine z_iadd hx dX6_type_41 ?_
      refine pf_X6_typed hx wf_X6_49 dX6_type_42 h (fun σ4 h => ?_)
      refine z_aload_n hx 0 dX6_type_45 rfl ?_
      refine gf_X6_typed hx wf_X6_49 dX6_type_46 ?_
      cases h
      exact z_iret hx hq dX6_type_49
    · refine z_bipush hx (n := (-3)) dX6_type_22 rfl ?_
      cases h
      exact z_iret hx hq dX6_type_24
  · refine z_iconst hx (n := (-1)) dX6_type_11 ?_
    cases h
    exact z_iret hx hq dX6_type_12

theorem met_X6_type (l : Launch) (g : zG) (hg : g.1 = 1) {σ : zS} {x1 : Int} {rr : Int × zS} (h : f_X6_type σ x1 = some rr) : z_Met l yX6_type cX6_type 2 (some .int) rm_X6_type g [.ref (z_ad (g) 0), .int (zi x1)] σ (z_QI g rr.1 rr.2) := by
  refine z_enter (own := RX6) (sd := 1) (lv0 := [(0, .ref (z_ad (g) 0)), (1, .int (zi x1))]) (by decide) rfl (Nat.le_of_ble_eq_true rfl) hg rfl (fun C hx hl hgC hR hn hq => ?_)
  subst hgC
  refine z_sub [0, 1] rfl ?_
  exact w_X6_type hx hn hR hq σ x1 h
theorem dX6_clear_0 : decode cX6_clear 0 = .ok (.aload_n 0, 1) := by decide +kernel
theorem dX6_clear_1 : decode cX6_clear 1 = .ok (.getfield 49, 3) := by decide +kernel
theorem dX6_clear_4 : decode cX6_clear 4 = .ok (.istore_n 1, 1) := by decide +kernel
theorem dX6_clear_5 : decode cX6_clear 5 = .ok (.aload_n 0, 1) := by decide +kernel
theorem dX6_clear_6 : decode cX6_clear 6 = .ok (.iconst 0, 1) := by decide +kernel
theorem dX6_clear_7 : decode cX6_clear 7 = .ok (.putfield 49, 3) := by decide +kernel
theorem dX6_clear_10 : decode cX6_clear 10 = .ok (.iload_n 1, 1) := by decide +kernel
theorem dX6_clear_11 : decode cX6_clear 11 = .ok (.ireturn, 1) := by decide +kernel
abbrev rm_X6_clear : Room := { frames := 0, cells := 0, slots := 0, locals := 0 }
theorem w_X6_clear {C : zC} (hx : z_ok C cX6_clear RX6 1) (hn : z_nL C = 2) (hR : z_R C = rm_X6_clear) {rr : Int × zS} (hq : z_fin C (some .int) (z_QI (z_g C) rr.1 rr.2)) (σ : zS) (h : f_X6_clear σ = some rr) : z_W C σ 0 [(0, .ref (z_ad (z_g C) 0))] [] := by
  unfold f_X6_clear at h
  refine z_aload_n hx 0 dX6_clear_0 rfl ?_
  refine gf_X6_typed hx wf_X6_49 dX6_clear_1 ?_
  refine z_istore_n hx hn (lv' := [(1, .int (zi (σ 0 4))), (0, .ref (z_ad (z_g C) 0))]) dX6_clear_4 (by decide) rfl ?_
  refine z_aload_n hx 1 dX6_clear_5 rfl ?_
  refine z_iconst hx (n := 0) dX6_clear_6 ?_
  refine pf_X6_typed hx wf_X6_49 dX6_clear_7 h (fun σ1 h => ?_)
  refine z_iload_n hx 0 dX6_clear_10 rfl ?_
  cases h
  exact z_iret hx hq dX6_clear_11

theorem met_X6_clear (l : Launch) (g : zG) (hg : g.1 = 1) {σ : zS} {rr : Int × zS} (h : f_X6_clear σ = some rr) : z_Met l yX6_clear cX6_clear 2 (some .int) rm_X6_clear g [.ref (z_ad (g) 0)] σ (z_QI g rr.1 rr.2) := by
  refine z_enter (own := RX6) (sd := 1) (lv0 := [(0, .ref (z_ad (g) 0))]) (by decide) rfl (Nat.le_of_ble_eq_true rfl) hg rfl (fun C hx hl hgC hR hn hq => ?_)
  subst hgC
  refine z_sub [0] rfl ?_
  exact w_X6_clear hx hn hR hq σ h
theorem dX6_sign_0 : decode cX6_sign 0 = .ok (.aload_n 0, 1) := by decide +kernel
theorem dX6_sign_1 : decode cX6_sign 1 = .ok (.getfield 52, 3) := by decide +kernel
theorem dX6_sign_4 : decode cX6_sign 4 = .ok (.aload_n 0, 1) := by decide +kernel
theorem dX6_sign_5 : decode cX6_sign 5 = .ok (.getfield 49, 3) := by decide +kernel
theorem dX6_sign_8 : decode cX6_sign 8 = .ok (.if_icmp .ge 15, 3) := by decide +kernel
theorem dX6_sign_11 : decode cX6_sign 11 = .ok (.aload_n 0, 1) := by decide +kernel
theorem dX6_sign_12 : decode cX6_sign 12 = .ok (.getfield 16, 3) := by decide +kernel
theorem dX6_sign_15 : decode cX6_sign 15 = .ok (.aload_n 0, 1) := by decide +kernel
theorem dX6_sign_16 : decode cX6_sign 16 = .ok (.getfield 52, 3) := by decide +kernel
theorem dX6_sign_19 : decode cX6_sign 19 = .ok (.iaload, 1) := by decide +kernel
theorem dX6_sign_20 : decode cX6_sign 20 = .ok (.goto 4, 3) := by decide +kernel
theorem dX6_sign_23 : decode cX6_sign 23 = .ok (.iconst (-1), 1) := by decide +kernel
theorem dX6_sign_24 : decode cX6_sign 24 = .ok (.ireturn, 1) := by decide +kernel
abbrev rm_X6_sign : Room := { frames := 0, cells := 0, slots := 0, locals := 0 }
theorem w_X6_sign_b24 {C : zC} (hx : z_ok C cX6_sign RX6 1) (hn : z_nL C = 1) (hR : z_R C = rm_X6_sign) {rr : Int × zS} (hq : z_fin C (some .int) (z_QI (z_g C) rr.1 rr.2)) (σ : zS) (s0 : Int) (h : f_X6_sign_b24 σ s0 = some rr) : z_W C σ 24 [] [.int (zi s0)] := by
  unfold f_X6_sign_b24 at h
  cases h
  exact z_iret hx hq dX6_sign_24

theorem w_X6_sign {C : zC} (hx : z_ok C cX6_sign RX6 1) (hn : z_nL C = 1) (hR : z_R C = rm_X6_sign) {rr : Int × zS} (hq : z_fin C (some .int) (z_QI (z_g C) rr.1 rr.2)) (σ : zS) (h : f_X6_sign σ = some rr) : z_W C σ 0 [(0, .ref (z_ad (z_g C) 0))] [] := by
  unfold f_X6_sign at h
  refine z_aload_n hx 0 dX6_sign_0 rfl ?_
  refine gf_X6_at hx wf_X6_52 dX6_sign_1 ?_
  refine z_aload_n hx 0 dX6_sign_4 rfl ?_
  refine gf_X6_typed hx wf_X6_49 dX6_sign_5 ?_
  refine z_icmp_ge hx (tgt := 23) dX6_sign_8 (by decide) h (fun h => h) (fun hc h => ?_) (fun hc h => ?_)
  · refine z_iconst hx (n := (-1)) dX6_sign_23 ?_
    refine z_sub [] rfl ?_
    exact w_X6_sign_b24 hx hn hR hq σ (-1) h
  · refine z_aload_n hx 0 dX6_sign_11 rfl ?_
    refine gf_X6_text hx wf_X6_16 dX6_sign_12 ?_
    refine z_aload_n hx 0 dX6_sign_15 rfl ?_
    refine gf_X6_at hx wf_X6_52 dX6_sign_16 ?_
    refine z_iald hx (n := 120) (z_lt1 (z_ok_sd hx) (by decide)) (z_kc3 (z_ok_sd hx) _) rfl (by decide) dX6_sign_19 h (fun h => ?_)
    refine z_goto hx (tgt := 24) dX6_sign_20 (by decide) ?_
    refine z_sub [] rfl ?_
    exact w_X6_sign_b24 hx hn hR hq σ (σ 3 (σ 0 5)) h

theorem met_X6_sign (l : Launch) (g : zG) (hg : g.1 = 1) {σ : zS} {rr : Int × zS} (h : f_X6_sign σ = some rr) : z_Met l yX6_sign cX6_sign 1 (some .int) rm_X6_sign g [.ref (z_ad (g) 0)] σ (z_QI g rr.1 rr.2) := by
  refine z_enter (own := RX6) (sd := 1) (lv0 := [(0, .ref (z_ad (g) 0))]) (by decide) rfl (Nat.le_of_ble_eq_true rfl) hg rfl (fun C hx hl hgC hR hn hq => ?_)
  subst hgC
  refine z_sub [0] rfl ?_
  exact w_X6_sign hx hn hR hq σ h
theorem dX6_isDigit_0 : decode cX6_isDigit 0 = .ok (.aload_n 0, 1) := by decide +kernel
theorem dX6_isDigit_1 : decode cX6_isDigit 1 = .ok (.invokevirtual 55, 3) := by decide +kernel
theorem dX6_isDigit_4 : decode cX6_isDigit 4 = .ok (.bipush 48, 2) := by decide +kernel
theorem dX6_isDigit_6 : decode cX6_isDigit 6 = .ok (.bipush 57, 2) := by decide +kernel
theorem dX6_isDigit_8 : decode cX6_isDigit 8 = .ok (.invokestatic 41, 3) := by decide +kernel
theorem dX6_isDigit_11 : decode cX6_isDigit 11 = .ok (.ireturn, 1) := by decide +kernel
abbrev rm_X6_isDigit : Room := { frames := 1, cells := 0, slots := 0, locals := 22 }
theorem w_X6_isDigit {C : zC} (hx : z_ok C cX6_isDigit RX6 1) (hn : z_nL C = 1) (hR : z_R C = rm_X6_isDigit) {rr : Int × zS} (hq : z_fin C (some .boolean) (z_QI (z_g C) rr.1 rr.2)) (σ : zS) (h : f_X6_isDigit σ = some rr) : z_W C σ 0 [(0, .ref (z_ad (z_g C) 0))] [] := by
  unfold f_X6_isDigit at h
  refine z_aload_n hx 0 dX6_isDigit_0 rfl ?_
  obtain ⟨r2, σ1, h1, h⟩ := z_bind_some h
  refine z_calli hx (As := []) (k := 0) (met_X6_sign (z_l C) (z_g C) (z_ok_sd hx) h1) (z_lt1 (z_ok_sd hx) (by decide)) (z_kc0 (z_ok_sd hx) _) rfl rfl cv_X6_55 (z_room hR ⟨Nat.le_of_ble_eq_true rfl, Nat.le_of_ble_eq_true rfl⟩) ⟨rfl, rfl⟩ rfl rfl (Nat.le_of_ble_eq_true rfl) dX6_isDigit_1 ?_
  refine z_bipush hx (n := 48) dX6_isDigit_4 rfl ?_
  refine z_bipush hx (n := 57) dX6_isDigit_6 rfl ?_
  obtain ⟨r4, σ3, h8, h⟩ := z_bind_some h
  refine z_calls hx (As := [.int (zi r2), .int (zi 48), .int (zi 57)]) (met_X6_in (z_l C) (z_g C) (z_ok_sd hx) h8) cv_X6_41 (z_room hR ⟨Nat.le_of_ble_eq_true rfl, Nat.le_of_ble_eq_true rfl⟩) ⟨rfl, rfl⟩ rfl rfl (Nat.le_of_ble_eq_true rfl) dX6_isDigit_8 ?_
  obtain ⟨hz, h⟩ := z_gd h
  cases h
  exact z_zret hx hz hq dX6_isDigit_11

theorem met_X6_isDigit (l : Launch) (g : zG) (hg : g.1 = 1) {σ : zS} {rr : Int × zS} (h : f_X6_isDigit σ = some rr) : z_Met l yX6_isDigit cX6_isDigit 1 (some .boolean) rm_X6_isDigit g [.ref (z_ad (g) 0)] σ (z_QI g rr.1 rr.2) := by
  refine z_enter (own := RX6) (sd := 1) (lv0 := [(0, .ref (z_ad (g) 0))]) (by decide) rfl (Nat.le_of_ble_eq_true rfl) hg rfl (fun C hx hl hgC hR hn hq => ?_)
  subst hgC
  refine z_sub [0] rfl ?_
  exact w_X6_isDigit hx hn hR hq σ h
theorem dX6_takesFrames_0 : decode cX6_takesFrames 0 = .ok (.aload_n 0, 1) := by decide +kernel
theorem dX6_takesFrames_1 : decode cX6_takesFrames 1 = .ok (.invokevirtual 59, 3) := by decide +kernel
theorem dX6_takesFrames_4 : decode cX6_takesFrames 4 = .ok (.ifCond .eq 42, 3) := by decide +kernel
theorem dX6_takesFrames_7 : decode cX6_takesFrames 7 = .ok (.aload_n 0, 1) := by decide +kernel
theorem dX6_takesFrames_8 : decode cX6_takesFrames 8 = .ok (.getfield 19, 3) := by decide +kernel
theorem dX6_takesFrames_11 : decode cX6_takesFrames 11 = .ok (.aload_n 0, 1) := by decide +kernel
theorem dX6_takesFrames_12 : decode cX6_takesFrames 12 = .ok (.getfield 63, 3) := by decide +kernel
theorem dX6_takesFrames_15 : decode cX6_takesFrames 15 = .ok (.aload_n 0, 1) := by decide +kernel
theorem dX6_takesFrames_16 : decode cX6_takesFrames 16 = .ok (.invokevirtual 55, 3) := by decide +kernel
theorem dX6_takesFrames_19 : decode cX6_takesFrames 19 = .ok (.bipush 48, 2) := by decide +kernel
theorem dX6_takesFrames_21 : decode cX6_takesFrames 21 = .ok (.isub, 1) := by decide +kernel
theorem dX6_takesFrames_22 : decode cX6_takesFrames 22 = .ok (.iastore, 1) := by decide +kernel
theorem dX6_takesFrames_23 : decode cX6_takesFrames 23 = .ok (.aload_n 0, 1) := by decide +kernel
theorem dX6_takesFrames_24 : decode cX6_takesFrames 24 = .ok (.dup, 1) := by decide +kernel
theorem dX6_takesFrames_25 : decode cX6_takesFrames 25 = .ok (.getfield 63, 3) := by decide +kernel
theorem dX6_takesFrames_28 : decode cX6_takesFrames 28 = .ok (.iconst 1, 1) := by decide +kernel
theorem dX6_takesFrames_29 : decode cX6_takesFrames 29 = .ok (.iadd, 1) := by decide +kernel
theorem dX6_takesFrames_30 : decode cX6_takesFrames 30 = .ok (.putfield 63, 3) := by decide +kernel
theorem dX6_takesFrames_33 : decode cX6_takesFrames 33 = .ok (.aload_n 0, 1) := by decide +kernel
theorem dX6_takesFrames_34 : decode cX6_takesFrames 34 = .ok (.dup, 1) := by decide +kernel
theorem dX6_takesFrames_35 : decode cX6_takesFrames 35 = .ok (.getfield 52, 3) := by decide +kernel
theorem dX6_takesFrames_38 : decode cX6_takesFrames 38 = .ok (.iconst 1, 1) := by decide +kernel
theorem dX6_takesFrames_39 : decode cX6_takesFrames 39 = .ok (.iadd, 1) := by decide +kernel
theorem dX6_takesFrames_40 : decode cX6_takesFrames 40 = .ok (.putfield 52, 3) := by decide +kernel
theorem dX6_takesFrames_43 : decode cX6_takesFrames 43 = .ok (.goto (-43), 3) := by decide +kernel
theorem dX6_takesFrames_46 : decode cX6_takesFrames 46 = .ok (.return_, 1) := by decide +kernel
abbrev rm_X6_takesFrames : Room := { frames := 2, cells := 0, slots := 0, locals := 42 }
theorem w_X6_takesFrames_b0 {C : zC} (hx : z_ok C cX6_takesFrames RX6 1) (hn : z_nL C = 1) (hR : z_R C = rm_X6_takesFrames) {rr : Unit × zS} (hq : z_fin C none (z_QV (z_g C) rr.2)) {K0 : zS → Option (Unit × zS)} (hK0 : ∀ (σ : zS) , K0 σ = some rr → z_W C σ 0 [(0, .ref (z_ad (z_g C) 0))] []) (σ : zS) (h : f_X6_takesFrames_b0 K0 σ = some rr) : z_W C σ 0 [(0, .ref (z_ad (z_g C) 0))] [] := by
  unfold f_X6_takesFrames_b0 at h
  refine z_aload_n hx 0 dX6_takesFrames_0 rfl ?_
  obtain ⟨r2, σ1, h1, h⟩ := z_bind_some h
  refine z_calli hx (As := []) (k := 0) (met_X6_isDigit (z_l C) (z_g C) (z_ok_sd hx) h1) (z_lt1 (z_ok_sd hx) (by decide)) (z_kc0 (z_ok_sd hx) _) rfl rfl cv_X6_59 (z_room hR ⟨Nat.le_of_ble_eq_true rfl, Nat.le_of_ble_eq_true rfl⟩) ⟨rfl, rfl⟩ rfl rfl (Nat.le_of_ble_eq_true rfl) dX6_takesFrames_1 ?_
  refine z_if_eq hx (tgt := 46) dX6_takesFrames_4 (by decide) h (fun h => h) (fun hc h => ?_) (fun hc h => ?_)
  · cases h
    exact z_vret hx hq dX6_takesFrames_46
  · refine z_aload_n hx 0 dX6_takesFrames_7 rfl ?_
    refine gf_X6_levels hx wf_X6_19 dX6_takesFrames_8 ?_
    refine z_aload_n hx 0 dX6_takesFrames_11 rfl ?_
    refine gf_X6_frameMany hx wf_X6_63 dX6_takesFrames_12 ?_
    refine z_aload_n hx 0 dX6_takesFrames_15 rfl ?_
    obtain ⟨r4, σ3, h16, h⟩ := z_bind_some h
    refine z_calli hx (As := []) (k := 0) (met_X6_sign (z_l C) (z_g C) (z_ok_sd hx) h16) (z_lt1 (z_ok_sd hx) (by decide)) (z_kc0 (z_ok_sd hx) _) rfl rfl cv_X6_55 (z_room hR ⟨Nat.le_of_ble_eq_true rfl, Nat.le_of_ble_eq_true rfl⟩) ⟨rfl, rfl⟩ rfl rfl (Nat.le_of_ble_eq_true rfl) dX6_takesFrames_16 ?_
    refine z_bipush hx (n := 48) dX6_takesFrames_19 rfl ?_
    refine z_isub hx dX6_takesFrames_21 ?_
    refine z_iast hx (n := 120) (z_lt1 (z_ok_sd hx) (by decide)) (z_kc4 (z_ok_sd hx)) rfl (by decide) dX6_takesFrames_22 h (fun σ5 h => ?_)
    refine z_aload_n hx 0 dX6_takesFrames_23 rfl ?_
    refine z_dup hx dX6_takesFrames_24 rfl ?_
    refine gf_X6_frameMany hx wf_X6_63 dX6_takesFrames_25 ?_
    refine z_iconst hx (n := 1) dX6_takesFrames_28 ?_
    refine z_iadd hx dX6_takesFrames_29 ?_
    refine pf_X6_frameMany hx wf_X6_63 dX6_takesFrames_30 h (fun σ6 h => ?_)
    refine z_aload_n hx 0 dX6_takesFrames_33 rfl ?_
    refine z_dup hx dX6_takesFrames_34 rfl ?_
    refine gf_X6_at hx wf_X6_52 dX6_takesFrames_35 ?_
    refine z_iconst hx (n := 1) dX6_takesFrames_38 ?_
    refine z_iadd hx dX6_takesFrames_39 ?_
    refine pf_X6_at hx wf_X6_52 dX6_takesFrames_40 h (fun σ7 h => ?_)
    refine z_goto hx (tgt := 0) dX6_takesFrames_43 (by decide) ?_
    refine z_sub [0] rfl ?_
    exact hK0 σ7 h

theorem w_X6_takesFrames_l0 {C : zC} (hx : z_ok C cX6_takesFrames RX6 1) (hn : z_nL C = 1) (hR : z_R C = rm_X6_takesFrames) {rr : Unit × zS} (hq : z_fin C none (z_QV (z_g C) rr.2)) : ∀ (n : Nat) (σ : zS) (_ : f_X6_takesFrames_l0 n σ = some rr), z_W C σ 0 [(0, .ref (z_ad (z_g C) 0))] [] := by
  intro n
  induction n with
  | zero => intro σ h; cases h
  | succ n ih =>
    intro σ h
    exact w_X6_takesFrames_b0 hx hn hR hq ih σ h
theorem met_X6_takesFrames (l : Launch) (g : zG) (hg : g.1 = 1) {σ : zS} {rr : Unit × zS} (h : f_X6_takesFrames σ = some rr) : z_Met l yX6_takesFrames cX6_takesFrames 1 none rm_X6_takesFrames g [.ref (z_ad (g) 0)] σ (z_QV g rr.2) := by
  refine z_enter (own := RX6) (sd := 1) (lv0 := [(0, .ref (z_ad (g) 0))]) (by decide) rfl (Nat.le_of_ble_eq_true rfl) hg rfl (fun C hx hl hgC hR hn hq => ?_)
  subst hgC
  refine z_sub [0] rfl ?_
  exact w_X6_takesFrames_l0 hx hn hR hq z_fuel σ h
theorem dX6_doubt_0 : decode cX6_doubt 0 = .ok (.aload_n 0, 1) := by decide +kernel
theorem dX6_doubt_1 : decode cX6_doubt 1 = .ok (.getfield 52, 3) := by decide +kernel
theorem dX6_doubt_4 : decode cX6_doubt 4 = .ok (.istore_n 1, 1) := by decide +kernel
theorem dX6_doubt_5 : decode cX6_doubt 5 = .ok (.iconst 0, 1) := by decide +kernel
theorem dX6_doubt_6 : decode cX6_doubt 6 = .ok (.istore_n 2, 1) := by decide +kernel
theorem dX6_doubt_7 : decode cX6_doubt 7 = .ok (.iconst 0, 1) := by decide +kernel
theorem dX6_doubt_8 : decode cX6_doubt 8 = .ok (.istore_n 3, 1) := by decide +kernel
theorem dX6_doubt_9 : decode cX6_doubt 9 = .ok (.iload_n 3, 1) := by decide +kernel
theorem dX6_doubt_10 : decode cX6_doubt 10 = .ok (.iconst 3, 1) := by decide +kernel
theorem dX6_doubt_11 : decode cX6_doubt 11 = .ok (.if_icmp .ge 39, 3) := by decide +kernel
theorem dX6_doubt_14 : decode cX6_doubt 14 = .ok (.aload_n 0, 1) := by decide +kernel
theorem dX6_doubt_15 : decode cX6_doubt 15 = .ok (.invokevirtual 59, 3) := by decide +kernel
theorem dX6_doubt_18 : decode cX6_doubt 18 = .ok (.ifCond .eq 32, 3) := by decide +kernel
theorem dX6_doubt_21 : decode cX6_doubt 21 = .ok (.bipush 10, 2) := by decide +kernel
theorem dX6_doubt_23 : decode cX6_doubt 23 = .ok (.iload_n 2, 1) := by decide +kernel
theorem dX6_doubt_24 : decode cX6_doubt 24 = .ok (.imul, 1) := by decide +kernel
theorem dX6_doubt_25 : decode cX6_doubt 25 = .ok (.aload_n 0, 1) := by decide +kernel
theorem dX6_doubt_26 : decode cX6_doubt 26 = .ok (.invokevirtual 55, 3) := by decide +kernel
theorem dX6_doubt_29 : decode cX6_doubt 29 = .ok (.iadd, 1) := by decide +kernel
theorem dX6_doubt_30 : decode cX6_doubt 30 = .ok (.bipush 48, 2) := by decide +kernel
theorem dX6_doubt_32 : decode cX6_doubt 32 = .ok (.isub, 1) := by decide +kernel
theorem dX6_doubt_33 : decode cX6_doubt 33 = .ok (.istore_n 2, 1) := by decide +kernel
theorem dX6_doubt_34 : decode cX6_doubt 34 = .ok (.aload_n 0, 1) := by decide +kernel
theorem dX6_doubt_35 : decode cX6_doubt 35 = .ok (.dup, 1) := by decide +kernel
theorem dX6_doubt_36 : decode cX6_doubt 36 = .ok (.getfield 52, 3) := by decide +kernel
theorem dX6_doubt_39 : decode cX6_doubt 39 = .ok (.iconst 1, 1) := by decide +kernel
theorem dX6_doubt_40 : decode cX6_doubt 40 = .ok (.iadd, 1) := by decide +kernel
theorem dX6_doubt_41 : decode cX6_doubt 41 = .ok (.putfield 52, 3) := by decide +kernel
theorem dX6_doubt_44 : decode cX6_doubt 44 = .ok (.iinc 3 1, 3) := by decide +kernel
theorem dX6_doubt_47 : decode cX6_doubt 47 = .ok (.goto (-38), 3) := by decide +kernel
theorem dX6_doubt_50 : decode cX6_doubt 50 = .ok (.aload_n 0, 1) := by decide +kernel
theorem dX6_doubt_51 : decode cX6_doubt 51 = .ok (.getfield 22, 3) := by decide +kernel
theorem dX6_doubt_54 : decode cX6_doubt 54 = .ok (.iconst 5, 1) := by decide +kernel
theorem dX6_doubt_55 : decode cX6_doubt 55 = .ok (.aload_n 0, 1) := by decide +kernel
theorem dX6_doubt_56 : decode cX6_doubt 56 = .ok (.getfield 66, 3) := by decide +kernel
theorem dX6_doubt_59 : decode cX6_doubt 59 = .ok (.imul, 1) := by decide +kernel
theorem dX6_doubt_60 : decode cX6_doubt 60 = .ok (.iconst 3, 1) := by decide +kernel
theorem dX6_doubt_61 : decode cX6_doubt 61 = .ok (.iadd, 1) := by decide +kernel
theorem dX6_doubt_62 : decode cX6_doubt 62 = .ok (.iload_n 2, 1) := by decide +kernel
theorem dX6_doubt_63 : decode cX6_doubt 63 = .ok (.iastore, 1) := by decide +kernel
theorem dX6_doubt_64 : decode cX6_doubt 64 = .ok (.aload_n 0, 1) := by decide +kernel
theorem dX6_doubt_65 : decode cX6_doubt 65 = .ok (.aload_n 0, 1) := by decide +kernel
theorem dX6_doubt_66 : decode cX6_doubt 66 = .ok (.getfield 69, 3) := by decide +kernel
theorem dX6_doubt_69 : decode cX6_doubt 69 = .ok (.ifCond .ge 13, 3) := by decide +kernel
theorem dX6_doubt_72 : decode cX6_doubt 72 = .ok (.iload_n 2, 1) := by decide +kernel
theorem dX6_doubt_73 : decode cX6_doubt 73 = .ok (.bipush 100, 2) := by decide +kernel
theorem dX6_doubt_75 : decode cX6_doubt 75 = .ok (.if_icmp .le 7, 3) := by decide +kernel
theorem dX6_doubt_78 : decode cX6_doubt 78 = .ok (.iload_n 1, 1) := by decide +kernel
theorem dX6_doubt_79 : decode cX6_doubt 79 = .ok (.goto 7, 3) := by decide +kernel
theorem dX6_doubt_82 : decode cX6_doubt 82 = .ok (.aload_n 0, 1) := by decide +kernel
theorem dX6_doubt_83 : decode cX6_doubt 83 = .ok (.getfield 69, 3) := by decide +kernel
theorem dX6_doubt_86 : decode cX6_doubt 86 = .ok (.putfield 69, 3) := by decide +kernel
theorem dX6_doubt_89 : decode cX6_doubt 89 = .ok (.aload_n 0, 1) := by decide +kernel
theorem dX6_doubt_90 : decode cX6_doubt 90 = .ok (.getfield 52, 3) := by decide +kernel
theorem dX6_doubt_93 : decode cX6_doubt 93 = .ok (.iload_n 1, 1) := by decide +kernel
theorem dX6_doubt_94 : decode cX6_doubt 94 = .ok (.if_icmp .le 7, 3) := by decide +kernel
theorem dX6_doubt_97 : decode cX6_doubt 97 = .ok (.iconst 1, 1) := by decide +kernel
theorem dX6_doubt_98 : decode cX6_doubt 98 = .ok (.goto 4, 3) := by decide +kernel
theorem dX6_doubt_101 : decode cX6_doubt 101 = .ok (.iconst 0, 1) := by decide +kernel
theorem dX6_doubt_102 : decode cX6_doubt 102 = .ok (.ireturn, 1) := by decide +kernel
abbrev rm_X6_doubt : Room := { frames := 2, cells := 0, slots := 0, locals := 42 }
theorem w_X6_doubt_b102 {C : zC} (hx : z_ok C cX6_doubt RX6 1) (hn : z_nL C = 4) (hR : z_R C = rm_X6_doubt) {rr : Int × zS} (hq : z_fin C (some .boolean) (z_QI (z_g C) rr.1 rr.2)) (σ : zS) (s0 : Int) (h : f_X6_doubt_b102 σ s0 = some rr) : z_W C σ 102 [] [.int (zi s0)] := by
  unfold f_X6_doubt_b102 at h
  obtain ⟨hz, h⟩ := z_gd h
  cases h
  exact z_zret hx hz hq dX6_doubt_102

theorem w_X6_doubt_b86 {C : zC} (hx : z_ok C cX6_doubt RX6 1) (hn : z_nL C = 4) (hR : z_R C = rm_X6_doubt) {rr : Int × zS} (hq : z_fin C (some .boolean) (z_QI (z_g C) rr.1 rr.2)) (σ : zS) (x1 : Int) (s1 : Int) (h : f_X6_doubt_b86 σ x1 s1 = some rr) : z_W C σ 86 [(0, .ref (z_ad (z_g C) 0)), (1, .int (zi x1))] [.int (zi s1), .ref (z_ad (z_g C) 0)] := by
  unfold f_X6_doubt_b86 at h
  refine pf_X6_wrong hx wf_X6_69 dX6_doubt_86 h (fun σ1 h => ?_)
  refine z_aload_n hx 0 dX6_doubt_89 rfl ?_
  refine gf_X6_at hx wf_X6_52 dX6_doubt_90 ?_
  refine z_iload_n hx 1 dX6_doubt_93 rfl ?_
  refine z_icmp_le hx (tgt := 101) dX6_doubt_94 (by decide) h (fun h => h) (fun hc h => ?_) (fun hc h => ?_)
  · refine z_iconst hx (n := 0) dX6_doubt_101 ?_
    refine z_sub [] rfl ?_
    exact w_X6_doubt_b102 hx hn hR hq σ1 0 h
  · refine z_iconst hx (n := 1) dX6_doubt_97 ?_
    refine z_goto hx (tgt := 102) dX6_doubt_98 (by decide) ?_
    refine z_sub [] rfl ?_
    exact w_X6_doubt_b102 hx hn hR hq σ1 1 h

theorem w_X6_doubt_b82 {C : zC} (hx : z_ok C cX6_doubt RX6 1) (hn : z_nL C = 4) (hR : z_R C = rm_X6_doubt) {rr : Int × zS} (hq : z_fin C (some .boolean) (z_QI (z_g C) rr.1 rr.2)) (σ : zS) (x1 : Int) (h : f_X6_doubt_b82 σ x1 = some rr) : z_W C σ 82 [(0, .ref (z_ad (z_g C) 0)), (1, .int (zi x1))] [.ref (z_ad (z_g C) 0)] := by
  unfold f_X6_doubt_b82 at h
  refine z_aload_n hx 0 dX6_doubt_82 rfl ?_
  refine gf_X6_wrong hx wf_X6_69 dX6_doubt_83 ?_
  refine z_sub [0, 1] rfl ?_
  exact w_X6_doubt_b86 hx hn hR hq σ x1 (σ 0 6) h

theorem w_X6_doubt_b50 {C : zC} (hx : z_ok C cX6_doubt RX6 1) (hn : z_nL C = 4) (hR : z_R C = rm_X6_doubt) {rr : Int × zS} (hq : z_fin C (some .boolean) (z_QI (z_g C) rr.1 rr.2)) (σ : zS) (x1 : Int) (x2 : Int) (h : f_X6_doubt_b50 σ x1 x2 = some rr) : z_W C σ 50 [(0, .ref (z_ad (z_g C) 0)), (1, .int (zi x1)), (2, .int (zi x2))] [] := by
  unfold f_X6_doubt_b50 at h
  refine z_aload_n hx 0 dX6_doubt_50 rfl ?_
  refine gf_X6_marks hx wf_X6_22 dX6_doubt_51 ?_
  refine z_iconst hx (n := 5) dX6_doubt_54 ?_
  refine z_aload_n hx 0 dX6_doubt_55 rfl ?_
  refine gf_X6_markMany hx wf_X6_66 dX6_doubt_56 ?_
  refine z_imul hx dX6_doubt_59 ?_
  refine z_iconst hx (n := 3) dX6_doubt_60 ?_
  refine z_iadd hx dX6_doubt_61 ?_
  refine z_iload_n hx 2 dX6_doubt_62 rfl ?_
  refine z_iast hx (n := 100) (z_lt1 (z_ok_sd hx) (by decide)) (z_kc5 (z_ok_sd hx)) rfl (by decide) dX6_doubt_63 h (fun σ1 h => ?_)
  refine z_aload_n hx 0 dX6_doubt_64 rfl ?_
  refine z_aload_n hx 0 dX6_doubt_65 rfl ?_
  refine gf_X6_wrong hx wf_X6_69 dX6_doubt_66 ?_
  refine z_if_ge hx (tgt := 82) dX6_doubt_69 (by decide) h (fun h => h) (fun hc h => ?_) (fun hc h => ?_)
  · refine z_sub [0, 1] rfl ?_
    exact w_X6_doubt_b82 hx hn hR hq σ1 x1 h
  · refine z_iload_n hx 2 dX6_doubt_72 rfl ?_
    refine z_bipush hx (n := 100) dX6_doubt_73 rfl ?_
    refine z_icmp_le hx (tgt := 82) dX6_doubt_75 (by decide) h (fun h => ⟨h, by decide⟩) (fun hc h => ?_) (fun hc h => ?_)
    · refine z_sub [0, 1] rfl ?_
      exact w_X6_doubt_b82 hx hn hR hq σ1 x1 h
    · refine z_iload_n hx 1 dX6_doubt_78 rfl ?_
      refine z_goto hx (tgt := 86) dX6_doubt_79 (by decide) ?_
      refine z_sub [0, 1] rfl ?_
      exact w_X6_doubt_b86 hx hn hR hq σ1 x1 x1 h

theorem w_X6_doubt_b9 {C : zC} (hx : z_ok C cX6_doubt RX6 1) (hn : z_nL C = 4) (hR : z_R C = rm_X6_doubt) {rr : Int × zS} (hq : z_fin C (some .boolean) (z_QI (z_g C) rr.1 rr.2)) {K9 : zS → Int → Int → Int → Option (Int × zS)} (hK9 : ∀ (σ : zS) (x1 : Int) (x2 : Int) (x3 : Int) , K9 σ x1 x2 x3 = some rr → z_W C σ 9 [(0, .ref (z_ad (z_g C) 0)), (1, .int (zi x1)), (2, .int (zi x2)), (3, .int (zi x3))] []) (σ : zS) (x1 : Int) (x2 : Int) (x3 : Int) (h : f_X6_doubt_b9 K9 σ x1 x2 x3 = some rr) : z_W C σ 9 [(0, .ref (z_ad (z_g C) 0)), (1, .int (zi x1)), (2, .int (zi x2)), (3, .int (zi x3))] [] := by
  unfold f_X6_doubt_b9 at h
  refine z_iload_n hx 3 dX6_doubt_9 rfl ?_
  refine z_iconst hx (n := 3) dX6_doubt_10 ?_
  refine z_icmp_ge hx (tgt := 50) dX6_doubt_11 (by decide) h (fun h => ⟨h, by decide⟩) (fun hc h => ?_) (fun hc h => ?_)
  · refine z_sub [0, 1, 2] rfl ?_
    exact w_X6_doubt_b50 hx hn hR hq σ x1 x2 h
  · refine z_aload_n hx 0 dX6_doubt_14 rfl ?_
    obtain ⟨r2, σ1, h15, h⟩ := z_bind_some h
    refine z_calli hx (As := []) (k := 0) (met_X6_isDigit (z_l C) (z_g C) (z_ok_sd hx) h15) (z_lt1 (z_ok_sd hx) (by decide)) (z_kc0 (z_ok_sd hx) _) rfl rfl cv_X6_59 (z_room hR ⟨Nat.le_of_ble_eq_true rfl, Nat.le_of_ble_eq_true rfl⟩) ⟨rfl, rfl⟩ rfl rfl (Nat.le_of_ble_eq_true rfl) dX6_doubt_15 ?_
    refine z_if_eq hx (tgt := 50) dX6_doubt_18 (by decide) h (fun h => h) (fun hc h => ?_) (fun hc h => ?_)
    · refine z_sub [0, 1, 2] rfl ?_
      exact w_X6_doubt_b50 hx hn hR hq σ1 x1 x2 h
    · refine z_bipush hx (n := 10) dX6_doubt_21 rfl ?_
      refine z_iload_n hx 2 dX6_doubt_23 rfl ?_
      refine z_imul hx dX6_doubt_24 ?_
      refine z_aload_n hx 0 dX6_doubt_25 rfl ?_
      obtain ⟨r4, σ3, h26, h⟩ := z_bind_some h
      refine z_calli hx (As := []) (k := 0) (met_X6_sign (z_l C) (z_g C) (z_ok_sd hx) h26) (z_lt1 (z_ok_sd hx) (by decide)) (z_kc0 (z_ok_sd hx) _) rfl rfl cv_X6_55 (z_room hR ⟨Nat.le_of_ble_eq_true rfl, Nat.le_of_ble_eq_true rfl⟩) ⟨rfl, rfl⟩ rfl rfl (Nat.le_of_ble_eq_true rfl) dX6_doubt_26 ?_
      refine z_iadd hx dX6_doubt_29 ?_
      refine z_bipush hx (n := 48) dX6_doubt_30 rfl ?_
      refine z_isub hx dX6_doubt_32 ?_
      refine z_istore_n hx hn (lv' := [(2, .int (zi (((10 * x2) + r4) - 48))), (0, .ref (z_ad (z_g C) 0)), (1, .int (zi x1)), (3, .int (zi x3))]) dX6_doubt_33 (by decide) rfl ?_
      refine z_aload_n hx 1 dX6_doubt_34 rfl ?_
      refine z_dup hx dX6_doubt_35 rfl ?_
      refine gf_X6_at hx wf_X6_52 dX6_doubt_36 ?_
      refine z_iconst hx (n := 1) dX6_doubt_39 ?_
      refine z_iadd hx dX6_doubt_40 ?_
      refine pf_X6_at hx wf_X6_52 dX6_doubt_41 h (fun σ5 h => ?_)
      refine z_iinc hx hn 3 (lv' := [(3, .int (zi (x3 + 1))), (2, .int (zi (((10 * x2) + r4) - 48))), (0, .ref (z_ad (z_g C) 0)), (1, .int (zi x1))]) dX6_doubt_44 rfl (by decide) rfl ?_
      refine z_goto hx (tgt := 9) dX6_doubt_47 (by decide) ?_
      refine z_sub [2, 3, 1, 0] rfl ?_
      exact hK9 σ5 x1 (((10 * x2) + r4) - 48) (x3 + 1) h

theorem w_X6_doubt_l9 {C : zC} (hx : z_ok C cX6_doubt RX6 1) (hn : z_nL C = 4) (hR : z_R C = rm_X6_doubt) {rr : Int × zS} (hq : z_fin C (some .boolean) (z_QI (z_g C) rr.1 rr.2)) : ∀ (n : Nat) (σ : zS) (x1 : Int) (x2 : Int) (x3 : Int) (_ : f_X6_doubt_l9 n σ x1 x2 x3 = some rr), z_W C σ 9 [(0, .ref (z_ad (z_g C) 0)), (1, .int (zi x1)), (2, .int (zi x2)), (3, .int (zi x3))] [] := by
  intro n
  induction n with
  | zero => intro σ x1 x2 x3 h; cases h
  | succ n ih =>
    intro σ x1 x2 x3 h
    exact w_X6_doubt_b9 hx hn hR hq ih σ x1 x2 x3 h
theorem w_X6_doubt {C : zC} (hx : z_ok C cX6_doubt RX6 1) (hn : z_nL C = 4) (hR : z_R C = rm_X6_doubt) {rr : Int × zS} (hq : z_fin C (some .boolean) (z_QI (z_g C) rr.1 rr.2)) (σ : zS) (h : f_X6_doubt σ = some rr) : z_W C σ 0 [(0, .ref (z_ad (z_g C) 0))] [] := by
  unfold f_X6_doubt at h
  refine z_aload_n hx 0 dX6_doubt_0 rfl ?_
  refine gf_X6_at hx wf_X6_52 dX6_doubt_1 ?_
  refine z_istore_n hx hn (lv' := [(1, .int (zi (σ 0 5))), (0, .ref (z_ad (z_g C) 0))]) dX6_doubt_4 (by decide) rfl ?_
  refine z_iconst hx (n := 0) dX6_doubt_5 ?_
  refine z_istore_n hx hn (lv' := [(2, .int (zi 0)), (1, .int (zi (σ 0 5))), (0, .ref (z_ad (z_g C) 0))]) dX6_doubt_6 (by decide) rfl ?_
  refine z_iconst hx (n := 0) dX6_doubt_7 ?_
  refine z_istore_n hx hn (lv' := [(3, .int (zi 0)), (2, .int (zi 0)), (1, .int (zi (σ 0 5))), (0, .ref (z_ad (z_g C) 0))]) dX6_doubt_8 (by decide) rfl ?_
  refine z_sub [3, 2, 1, 0] rfl ?_
  exact w_X6_doubt_l9 hx hn hR hq z_fuel σ (σ 0 5) 0 0 h

theorem met_X6_doubt (l : Launch) (g : zG) (hg : g.1 = 1) {σ : zS} {rr : Int × zS} (h : f_X6_doubt σ = some rr) : z_Met l yX6_doubt cX6_doubt 4 (some .boolean) rm_X6_doubt g [.ref (z_ad (g) 0)] σ (z_QI g rr.1 rr.2) := by
  refine z_enter (own := RX6) (sd := 1) (lv0 := [(0, .ref (z_ad (g) 0))]) (by decide) rfl (Nat.le_of_ble_eq_true rfl) hg rfl (fun C hx hl hgC hR hn hq => ?_)
  subst hgC
  refine z_sub [0] rfl ?_
  exact w_X6_doubt hx hn hR hq σ h
theorem dX6_takes_0 : decode cX6_takes 0 = .ok (.aload_n 0, 1) := by decide +kernel
theorem dX6_takes_1 : decode cX6_takes 1 = .ok (.invokevirtual 55, 3) := by decide +kernel
theorem dX6_takes_4 : decode cX6_takes 4 = .ok (.iload_n 1, 1) := by decide +kernel
theorem dX6_takes_5 : decode cX6_takes 5 = .ok (.if_icmp .ne 7, 3) := by decide +kernel
theorem dX6_takes_8 : decode cX6_takes 8 = .ok (.iconst 1, 1) := by decide +kernel
theorem dX6_takes_9 : decode cX6_takes 9 = .ok (.goto 4, 3) := by decide +kernel
theorem dX6_takes_12 : decode cX6_takes 12 = .ok (.iconst 0, 1) := by decide +kernel
theorem dX6_takes_13 : decode cX6_takes 13 = .ok (.istore_n 2, 1) := by decide +kernel
theorem dX6_takes_14 : decode cX6_takes 14 = .ok (.aload_n 0, 1) := by decide +kernel
theorem dX6_takes_15 : decode cX6_takes 15 = .ok (.dup, 1) := by decide +kernel
theorem dX6_takes_16 : decode cX6_takes 16 = .ok (.getfield 52, 3) := by decide +kernel
theorem dX6_takes_19 : decode cX6_takes 19 = .ok (.iload_n 2, 1) := by decide +kernel
theorem dX6_takes_20 : decode cX6_takes 20 = .ok (.ifCond .eq 7, 3) := by decide +kernel
theorem dX6_takes_23 : decode cX6_takes 23 = .ok (.iconst 1, 1) := by decide +kernel
theorem dX6_takes_24 : decode cX6_takes 24 = .ok (.goto 4, 3) := by decide +kernel
theorem dX6_takes_27 : decode cX6_takes 27 = .ok (.iconst 0, 1) := by decide +kernel
theorem dX6_takes_28 : decode cX6_takes 28 = .ok (.iadd, 1) := by decide +kernel
theorem dX6_takes_29 : decode cX6_takes 29 = .ok (.putfield 52, 3) := by decide +kernel
theorem dX6_takes_32 : decode cX6_takes 32 = .ok (.iload_n 2, 1) := by decide +kernel
theorem dX6_takes_33 : decode cX6_takes 33 = .ok (.ireturn, 1) := by decide +kernel
abbrev rm_X6_takes : Room := { frames := 1, cells := 0, slots := 0, locals := 20 }
theorem w_X6_takes_b28 {C : zC} (hx : z_ok C cX6_takes RX6 1) (hn : z_nL C = 3) (hR : z_R C = rm_X6_takes) {rr : Int × zS} (hq : z_fin C (some .boolean) (z_QI (z_g C) rr.1 rr.2)) (σ : zS) (x2 : Int) (s1 : Int) (s2 : Int) (h : f_X6_takes_b28 σ x2 s1 s2 = some rr) : z_W C σ 28 [(2, .int (zi x2))] [.int (zi s2), .int (zi s1), .ref (z_ad (z_g C) 0)] := by
  unfold f_X6_takes_b28 at h
  refine z_iadd hx dX6_takes_28 ?_
  refine pf_X6_at hx wf_X6_52 dX6_takes_29 h (fun σ1 h => ?_)
  refine z_iload_n hx 0 dX6_takes_32 rfl ?_
  obtain ⟨hz, h⟩ := z_gd h
  cases h
  exact z_zret hx hz hq dX6_takes_33

theorem w_X6_takes_b13 {C : zC} (hx : z_ok C cX6_takes RX6 1) (hn : z_nL C = 3) (hR : z_R C = rm_X6_takes) {rr : Int × zS} (hq : z_fin C (some .boolean) (z_QI (z_g C) rr.1 rr.2)) (σ : zS) (s0 : Int) (h : f_X6_takes_b13 σ s0 = some rr) : z_W C σ 13 [(0, .ref (z_ad (z_g C) 0))] [.int (zi s0)] := by
  unfold f_X6_takes_b13 at h
  refine z_istore_n hx hn (lv' := [(2, .int (zi s0)), (0, .ref (z_ad (z_g C) 0))]) dX6_takes_13 (by decide) rfl ?_
  refine z_aload_n hx 1 dX6_takes_14 rfl ?_
  refine z_dup hx dX6_takes_15 rfl ?_
  refine gf_X6_at hx wf_X6_52 dX6_takes_16 ?_
  refine z_iload_n hx 0 dX6_takes_19 rfl ?_
  refine z_if_eq hx (tgt := 27) dX6_takes_20 (by decide) h (fun h => h) (fun hc h => ?_) (fun hc h => ?_)
  · refine z_iconst hx (n := 0) dX6_takes_27 ?_
    refine z_sub [0] rfl ?_
    exact w_X6_takes_b28 hx hn hR hq σ s0 (σ 0 5) 0 h
  · refine z_iconst hx (n := 1) dX6_takes_23 ?_
    refine z_goto hx (tgt := 28) dX6_takes_24 (by decide) ?_
    refine z_sub [0] rfl ?_
    exact w_X6_takes_b28 hx hn hR hq σ s0 (σ 0 5) 1 h

theorem w_X6_takes {C : zC} (hx : z_ok C cX6_takes RX6 1) (hn : z_nL C = 3) (hR : z_R C = rm_X6_takes) {rr : Int × zS} (hq : z_fin C (some .boolean) (z_QI (z_g C) rr.1 rr.2)) (σ : zS) (x1 : Int) (h : f_X6_takes σ x1 = some rr) : z_W C σ 0 [(0, .ref (z_ad (z_g C) 0)), (1, .int (zi x1))] [] := by
  unfold f_X6_takes at h
  refine z_aload_n hx 0 dX6_takes_0 rfl ?_
  obtain ⟨r2, σ1, h1, h⟩ := z_bind_some h
  refine z_calli hx (As := []) (k := 0) (met_X6_sign (z_l C) (z_g C) (z_ok_sd hx) h1) (z_lt1 (z_ok_sd hx) (by decide)) (z_kc0 (z_ok_sd hx) _) rfl rfl cv_X6_55 (z_room hR ⟨Nat.le_of_ble_eq_true rfl, Nat.le_of_ble_eq_true rfl⟩) ⟨rfl, rfl⟩ rfl rfl (Nat.le_of_ble_eq_true rfl) dX6_takes_1 ?_
  refine z_iload_n hx 1 dX6_takes_4 rfl ?_
  refine z_icmp_ne hx (tgt := 12) dX6_takes_5 (by decide) h (fun h => h) (fun hc h => ?_) (fun hc h => ?_)
  · refine z_iconst hx (n := 0) dX6_takes_12 ?_
    refine z_sub [0] rfl ?_
    exact w_X6_takes_b13 hx hn hR hq σ1 0 h
  · refine z_iconst hx (n := 1) dX6_takes_8 ?_
    refine z_goto hx (tgt := 13) dX6_takes_9 (by decide) ?_
    refine z_sub [0] rfl ?_
    exact w_X6_takes_b13 hx hn hR hq σ1 1 h

theorem met_X6_takes (l : Launch) (g : zG) (hg : g.1 = 1) {σ : zS} {x1 : Int} {rr : Int × zS} (h : f_X6_takes σ x1 = some rr) : z_Met l yX6_takes cX6_takes 3 (some .boolean) rm_X6_takes g [.ref (z_ad (g) 0), .int (zi x1)] σ (z_QI g rr.1 rr.2) := by
  refine z_enter (own := RX6) (sd := 1) (lv0 := [(0, .ref (z_ad (g) 0)), (1, .int (zi x1))]) (by decide) rfl (Nat.le_of_ble_eq_true rfl) hg rfl (fun C hx hl hgC hR hn hq => ?_)
  subst hgC
  refine z_sub [0, 1] rfl ?_
  exact w_X6_takes hx hn hR hq σ x1 h
theorem dX6_readsMark_0 : decode cX6_readsMark 0 = .ok (.iconst 5, 1) := by decide +kernel
theorem dX6_readsMark_1 : decode cX6_readsMark 1 = .ok (.aload_n 0, 1) := by decide +kernel
theorem dX6_readsMark_2 : decode cX6_readsMark 2 = .ok (.getfield 66, 3) := by decide +kernel
theorem dX6_readsMark_5 : decode cX6_readsMark 5 = .ok (.imul, 1) := by decide +kernel
theorem dX6_readsMark_6 : decode cX6_readsMark 6 = .ok (.istore_n 1, 1) := by decide +kernel
theorem dX6_readsMark_7 : decode cX6_readsMark 7 = .ok (.aload_n 0, 1) := by decide +kernel
theorem dX6_readsMark_8 : decode cX6_readsMark 8 = .ok (.invokevirtual 55, 3) := by decide +kernel
theorem dX6_readsMark_11 : decode cX6_readsMark 11 = .ok (.istore_n 2, 1) := by decide +kernel
theorem dX6_readsMark_12 : decode cX6_readsMark 12 = .ok (.iload_n 2, 1) := by decide +kernel
theorem dX6_readsMark_13 : decode cX6_readsMark 13 = .ok (.bipush 102, 2) := by decide +kernel
theorem dX6_readsMark_15 : decode cX6_readsMark 15 = .ok (.if_icmp .ne 7, 3) := by decide +kernel
theorem dX6_readsMark_18 : decode cX6_readsMark 18 = .ok (.iconst 0, 1) := by decide +kernel
theorem dX6_readsMark_19 : decode cX6_readsMark 19 = .ok (.goto 35, 3) := by decide +kernel
theorem dX6_readsMark_22 : decode cX6_readsMark 22 = .ok (.iload_n 2, 1) := by decide +kernel
theorem dX6_readsMark_23 : decode cX6_readsMark 23 = .ok (.bipush 98, 2) := by decide +kernel
theorem dX6_readsMark_25 : decode cX6_readsMark 25 = .ok (.if_icmp .ne 7, 3) := by decide +kernel
theorem dX6_readsMark_28 : decode cX6_readsMark 28 = .ok (.iconst 1, 1) := by decide +kernel
theorem dX6_readsMark_29 : decode cX6_readsMark 29 = .ok (.goto 25, 3) := by decide +kernel
theorem dX6_readsMark_32 : decode cX6_readsMark 32 = .ok (.iload_n 2, 1) := by decide +kernel
theorem dX6_readsMark_33 : decode cX6_readsMark 33 = .ok (.bipush 114, 2) := by decide +kernel
theorem dX6_readsMark_35 : decode cX6_readsMark 35 = .ok (.if_icmp .ne 7, 3) := by decide +kernel
theorem dX6_readsMark_38 : decode cX6_readsMark 38 = .ok (.iconst 2, 1) := by decide +kernel
theorem dX6_readsMark_39 : decode cX6_readsMark 39 = .ok (.goto 15, 3) := by decide +kernel
theorem dX6_readsMark_42 : decode cX6_readsMark 42 = .ok (.iload_n 2, 1) := by decide +kernel
theorem dX6_readsMark_43 : decode cX6_readsMark 43 = .ok (.bipush 110, 2) := by decide +kernel
theorem dX6_readsMark_45 : decode cX6_readsMark 45 = .ok (.if_icmp .ne 7, 3) := by decide +kernel
theorem dX6_readsMark_48 : decode cX6_readsMark 48 = .ok (.iconst 3, 1) := by decide +kernel
theorem dX6_readsMark_49 : decode cX6_readsMark 49 = .ok (.goto 5, 3) := by decide +kernel
theorem dX6_readsMark_52 : decode cX6_readsMark 52 = .ok (.bipush (-9), 2) := by decide +kernel
theorem dX6_readsMark_54 : decode cX6_readsMark 54 = .ok (.istore_n 3, 1) := by decide +kernel
theorem dX6_readsMark_55 : decode cX6_readsMark 55 = .ok (.iload_n 3, 1) := by decide +kernel
theorem dX6_readsMark_56 : decode cX6_readsMark 56 = .ok (.ifCond .ge 5, 3) := by decide +kernel
theorem dX6_readsMark_59 : decode cX6_readsMark 59 = .ok (.iconst 0, 1) := by decide +kernel
theorem dX6_readsMark_60 : decode cX6_readsMark 60 = .ok (.ireturn, 1) := by decide +kernel
theorem dX6_readsMark_61 : decode cX6_readsMark 61 = .ok (.aload_n 0, 1) := by decide +kernel
theorem dX6_readsMark_62 : decode cX6_readsMark 62 = .ok (.dup, 1) := by decide +kernel
theorem dX6_readsMark_63 : decode cX6_readsMark 63 = .ok (.getfield 52, 3) := by decide +kernel
theorem dX6_readsMark_66 : decode cX6_readsMark 66 = .ok (.iconst 1, 1) := by decide +kernel
theorem dX6_readsMark_67 : decode cX6_readsMark 67 = .ok (.iadd, 1) := by decide +kernel
theorem dX6_readsMark_68 : decode cX6_readsMark 68 = .ok (.putfield 52, 3) := by decide +kernel
theorem dX6_readsMark_71 : decode cX6_readsMark 71 = .ok (.aload_n 0, 1) := by decide +kernel
theorem dX6_readsMark_72 : decode cX6_readsMark 72 = .ok (.getfield 22, 3) := by decide +kernel
theorem dX6_readsMark_75 : decode cX6_readsMark 75 = .ok (.iload_n 1, 1) := by decide +kernel
theorem dX6_readsMark_76 : decode cX6_readsMark 76 = .ok (.iload_n 3, 1) := by decide +kernel
theorem dX6_readsMark_77 : decode cX6_readsMark 77 = .ok (.iastore, 1) := by decide +kernel
theorem dX6_readsMark_78 : decode cX6_readsMark 78 = .ok (.aload_n 0, 1) := by decide +kernel
theorem dX6_readsMark_79 : decode cX6_readsMark 79 = .ok (.getfield 22, 3) := by decide +kernel
theorem dX6_readsMark_82 : decode cX6_readsMark 82 = .ok (.iload_n 1, 1) := by decide +kernel
theorem dX6_readsMark_83 : decode cX6_readsMark 83 = .ok (.iconst 1, 1) := by decide +kernel
theorem dX6_readsMark_84 : decode cX6_readsMark 84 = .ok (.iadd, 1) := by decide +kernel
theorem dX6_readsMark_85 : decode cX6_readsMark 85 = .ok (.aload_n 0, 1) := by decide +kernel
theorem dX6_readsMark_86 : decode cX6_readsMark 86 = .ok (.getfield 63, 3) := by decide +kernel
theorem dX6_readsMark_89 : decode cX6_readsMark 89 = .ok (.iastore, 1) := by decide +kernel
theorem dX6_readsMark_90 : decode cX6_readsMark 90 = .ok (.aload_n 0, 1) := by decide +kernel
theorem dX6_readsMark_91 : decode cX6_readsMark 91 = .ok (.getfield 22, 3) := by decide +kernel
theorem dX6_readsMark_94 : decode cX6_readsMark 94 = .ok (.iload_n 1, 1) := by decide +kernel
theorem dX6_readsMark_95 : decode cX6_readsMark 95 = .ok (.iconst 3, 1) := by decide +kernel
theorem dX6_readsMark_96 : decode cX6_readsMark 96 = .ok (.iadd, 1) := by decide +kernel
theorem dX6_readsMark_97 : decode cX6_readsMark 97 = .ok (.iconst 0, 1) := by decide +kernel
theorem dX6_readsMark_98 : decode cX6_readsMark 98 = .ok (.iastore, 1) := by decide +kernel
theorem dX6_readsMark_99 : decode cX6_readsMark 99 = .ok (.aload_n 0, 1) := by decide +kernel
theorem dX6_readsMark_100 : decode cX6_readsMark 100 = .ok (.getfield 22, 3) := by decide +kernel
theorem dX6_readsMark_103 : decode cX6_readsMark 103 = .ok (.iload_n 1, 1) := by decide +kernel
theorem dX6_readsMark_104 : decode cX6_readsMark 104 = .ok (.iconst 4, 1) := by decide +kernel
theorem dX6_readsMark_105 : decode cX6_readsMark 105 = .ok (.iadd, 1) := by decide +kernel
theorem dX6_readsMark_106 : decode cX6_readsMark 106 = .ok (.iconst 0, 1) := by decide +kernel
theorem dX6_readsMark_107 : decode cX6_readsMark 107 = .ok (.iastore, 1) := by decide +kernel
theorem dX6_readsMark_108 : decode cX6_readsMark 108 = .ok (.iload_n 3, 1) := by decide +kernel
theorem dX6_readsMark_109 : decode cX6_readsMark 109 = .ok (.ifCond .ne 10, 3) := by decide +kernel
theorem dX6_readsMark_112 : decode cX6_readsMark 112 = .ok (.aload_n 0, 1) := by decide +kernel
theorem dX6_readsMark_113 : decode cX6_readsMark 113 = .ok (.invokevirtual 72, 3) := by decide +kernel
theorem dX6_readsMark_116 : decode cX6_readsMark 116 = .ok (.ifCond .eq 19, 3) := by decide +kernel
theorem dX6_readsMark_119 : decode cX6_readsMark 119 = .ok (.aload_n 0, 1) := by decide +kernel
theorem dX6_readsMark_120 : decode cX6_readsMark 120 = .ok (.bipush 58, 2) := by decide +kernel
theorem dX6_readsMark_122 : decode cX6_readsMark 122 = .ok (.invokevirtual 75, 3) := by decide +kernel
theorem dX6_readsMark_125 : decode cX6_readsMark 125 = .ok (.ifCond .eq 10, 3) := by decide +kernel
theorem dX6_readsMark_128 : decode cX6_readsMark 128 = .ok (.aload_n 0, 1) := by decide +kernel
theorem dX6_readsMark_129 : decode cX6_readsMark 129 = .ok (.invokevirtual 59, 3) := by decide +kernel
theorem dX6_readsMark_132 : decode cX6_readsMark 132 = .ok (.ifCond .ne 5, 3) := by decide +kernel
theorem dX6_readsMark_135 : decode cX6_readsMark 135 = .ok (.iconst 0, 1) := by decide +kernel
theorem dX6_readsMark_136 : decode cX6_readsMark 136 = .ok (.ireturn, 1) := by decide +kernel
theorem dX6_readsMark_137 : decode cX6_readsMark 137 = .ok (.aload_n 0, 1) := by decide +kernel
theorem dX6_readsMark_138 : decode cX6_readsMark 138 = .ok (.invokevirtual 79, 3) := by decide +kernel
theorem dX6_readsMark_141 : decode cX6_readsMark 141 = .ok (.aload_n 0, 1) := by decide +kernel
theorem dX6_readsMark_142 : decode cX6_readsMark 142 = .ok (.getfield 22, 3) := by decide +kernel
theorem dX6_readsMark_145 : decode cX6_readsMark 145 = .ok (.iload_n 1, 1) := by decide +kernel
theorem dX6_readsMark_146 : decode cX6_readsMark 146 = .ok (.iconst 2, 1) := by decide +kernel
theorem dX6_readsMark_147 : decode cX6_readsMark 147 = .ok (.iadd, 1) := by decide +kernel
theorem dX6_readsMark_148 : decode cX6_readsMark 148 = .ok (.aload_n 0, 1) := by decide +kernel
theorem dX6_readsMark_149 : decode cX6_readsMark 149 = .ok (.getfield 63, 3) := by decide +kernel
theorem dX6_readsMark_152 : decode cX6_readsMark 152 = .ok (.iastore, 1) := by decide +kernel
theorem dX6_readsMark_153 : decode cX6_readsMark 153 = .ok (.aload_n 0, 1) := by decide +kernel
theorem dX6_readsMark_154 : decode cX6_readsMark 154 = .ok (.dup, 1) := by decide +kernel
theorem dX6_readsMark_155 : decode cX6_readsMark 155 = .ok (.getfield 66, 3) := by decide +kernel
theorem dX6_readsMark_158 : decode cX6_readsMark 158 = .ok (.iconst 1, 1) := by decide +kernel
theorem dX6_readsMark_159 : decode cX6_readsMark 159 = .ok (.iadd, 1) := by decide +kernel
theorem dX6_readsMark_160 : decode cX6_readsMark 160 = .ok (.putfield 66, 3) := by decide +kernel
theorem dX6_readsMark_163 : decode cX6_readsMark 163 = .ok (.aload_n 0, 1) := by decide +kernel
theorem dX6_readsMark_164 : decode cX6_readsMark 164 = .ok (.bipush 93, 2) := by decide +kernel
theorem dX6_readsMark_166 : decode cX6_readsMark 166 = .ok (.invokevirtual 75, 3) := by decide +kernel
theorem dX6_readsMark_169 : decode cX6_readsMark 169 = .ok (.ireturn, 1) := by decide +kernel
abbrev rm_X6_readsMark : Room := { frames := 3, cells := 0, slots := 0, locals := 65 }
theorem w_X6_readsMark_b135 {C : zC} (hx : z_ok C cX6_readsMark RX6 1) (hn : z_nL C = 4) (hR : z_R C = rm_X6_readsMark) {rr : Int × zS} (hq : z_fin C (some .boolean) (z_QI (z_g C) rr.1 rr.2)) (σ : zS) (h : f_X6_readsMark_b135 σ = some rr) : z_W C σ 135 [] [] := by
  unfold f_X6_readsMark_b135 at h
  refine z_iconst hx (n := 0) dX6_readsMark_135 ?_
  cases h
  exact z_zret hx (by decide) hq dX6_readsMark_136

theorem w_X6_readsMark_b119 {C : zC} (hx : z_ok C cX6_readsMark RX6 1) (hn : z_nL C = 4) (hR : z_R C = rm_X6_readsMark) {rr : Int × zS} (hq : z_fin C (some .boolean) (z_QI (z_g C) rr.1 rr.2)) (σ : zS) (x1 : Int) (h : f_X6_readsMark_b119 σ x1 = some rr) : z_W C σ 119 [(0, .ref (z_ad (z_g C) 0)), (1, .int (zi x1))] [] := by
  unfold f_X6_readsMark_b119 at h
  refine z_aload_n hx 0 dX6_readsMark_119 rfl ?_
  refine z_bipush hx (n := 58) dX6_readsMark_120 rfl ?_
  obtain ⟨r2, σ1, h122, h⟩ := z_bind_some h
  refine z_calli hx (As := [.int (zi 58)]) (k := 0) (met_X6_takes (z_l C) (z_g C) (z_ok_sd hx) h122) (z_lt1 (z_ok_sd hx) (by decide)) (z_kc0 (z_ok_sd hx) _) rfl rfl cv_X6_75 (z_room hR ⟨Nat.le_of_ble_eq_true rfl, Nat.le_of_ble_eq_true rfl⟩) ⟨rfl, rfl⟩ rfl rfl (Nat.le_of_ble_eq_true rfl) dX6_readsMark_122 ?_
  refine z_if_eq hx (tgt := 135) dX6_readsMark_125 (by decide) h (fun h => h) (fun hc h => ?_) (fun hc h => ?_)
  · refine z_sub [] rfl ?_
    exact w_X6_readsMark_b135 hx hn hR hq σ1 h
  · refine z_aload_n hx 0 dX6_readsMark_128 rfl ?_
    obtain ⟨r4, σ3, h129, h⟩ := z_bind_some h
    refine z_calli hx (As := []) (k := 0) (met_X6_isDigit (z_l C) (z_g C) (z_ok_sd hx) h129) (z_lt1 (z_ok_sd hx) (by decide)) (z_kc0 (z_ok_sd hx) _) rfl rfl cv_X6_59 (z_room hR ⟨Nat.le_of_ble_eq_true rfl, Nat.le_of_ble_eq_true rfl⟩) ⟨rfl, rfl⟩ rfl rfl (Nat.le_of_ble_eq_true rfl) dX6_readsMark_129 ?_
    refine z_if_ne hx (tgt := 137) dX6_readsMark_132 (by decide) h (fun h => h) (fun hc h => ?_) (fun hc h => ?_)
    · refine z_aload_n hx 0 dX6_readsMark_137 rfl ?_
      obtain ⟨⟨⟩, σ5, h138, h⟩ := z_bind_some h
      refine z_callv hx (As := []) (k := 0) (met_X6_takesFrames (z_l C) (z_g C) (z_ok_sd hx) h138) (z_lt1 (z_ok_sd hx) (by decide)) (z_kc0 (z_ok_sd hx) _) rfl rfl cv_X6_79 (z_room hR ⟨Nat.le_of_ble_eq_true rfl, Nat.le_of_ble_eq_true rfl⟩) ⟨rfl, rfl⟩ rfl rfl (Nat.le_of_ble_eq_true rfl) dX6_readsMark_138 ?_
      refine z_aload_n hx 0 dX6_readsMark_141 rfl ?_
      refine gf_X6_marks hx wf_X6_22 dX6_readsMark_142 ?_
      refine z_iload_n hx 1 dX6_readsMark_145 rfl ?_
      refine z_iconst hx (n := 2) dX6_readsMark_146 ?_
      refine z_iadd hx dX6_readsMark_147 ?_
      refine z_aload_n hx 0 dX6_readsMark_148 rfl ?_
      refine gf_X6_frameMany hx wf_X6_63 dX6_readsMark_149 ?_
      refine z_iast hx (n := 100) (z_lt1 (z_ok_sd hx) (by decide)) (z_kc5 (z_ok_sd hx)) rfl (by decide) dX6_readsMark_152 h (fun σ6 h => ?_)
      refine z_aload_n hx 0 dX6_readsMark_153 rfl ?_
      refine z_dup hx dX6_readsMark_154 rfl ?_
      refine gf_X6_markMany hx wf_X6_66 dX6_readsMark_155 ?_
      refine z_iconst hx (n := 1) dX6_readsMark_158 ?_
      refine z_iadd hx dX6_readsMark_159 ?_
      refine pf_X6_markMany hx wf_X6_66 dX6_readsMark_160 h (fun σ7 h => ?_)
      refine z_aload_n hx 0 dX6_readsMark_163 rfl ?_
      refine z_bipush hx (n := 93) dX6_readsMark_164 rfl ?_
      obtain ⟨r9, σ8, h166, h⟩ := z_bind_some h
      refine z_calli hx (As := [.int (zi 93)]) (k := 0) (met_X6_takes (z_l C) (z_g C) (z_ok_sd hx) h166) (z_lt1 (z_ok_sd hx) (by decide)) (z_kc0 (z_ok_sd hx) _) rfl rfl cv_X6_75 (z_room hR ⟨Nat.le_of_ble_eq_true rfl, Nat.le_of_ble_eq_true rfl⟩) ⟨rfl, rfl⟩ rfl rfl (Nat.le_of_ble_eq_true rfl) dX6_readsMark_166 ?_
      obtain ⟨hz, h⟩ := z_gd h
      cases h
      exact z_zret hx hz hq dX6_readsMark_169
    · refine z_sub [] rfl ?_
      exact w_X6_readsMark_b135 hx hn hR hq σ3 h

theorem w_X6_readsMark_b54 {C : zC} (hx : z_ok C cX6_readsMark RX6 1) (hn : z_nL C = 4) (hR : z_R C = rm_X6_readsMark) {rr : Int × zS} (hq : z_fin C (some .boolean) (z_QI (z_g C) rr.1 rr.2)) (σ : zS) (x1 : Int) (s0 : Int) (h : f_X6_readsMark_b54 σ x1 s0 = some rr) : z_W C σ 54 [(0, .ref (z_ad (z_g C) 0)), (1, .int (zi x1))] [.int (zi s0)] := by
  unfold f_X6_readsMark_b54 at h
  refine z_istore_n hx hn (lv' := [(3, .int (zi s0)), (0, .ref (z_ad (z_g C) 0)), (1, .int (zi x1))]) dX6_readsMark_54 (by decide) rfl ?_
  refine z_iload_n hx 0 dX6_readsMark_55 rfl ?_
  refine z_if_ge hx (tgt := 61) dX6_readsMark_56 (by decide) h (fun h => h) (fun hc h => ?_) (fun hc h => ?_)
  · refine z_aload_n hx 1 dX6_readsMark_61 rfl ?_
    refine z_dup hx dX6_readsMark_62 rfl ?_
    refine gf_X6_at hx wf_X6_52 dX6_readsMark_63 ?_
    refine z_iconst hx (n := 1) dX6_readsMark_66 ?_
    refine z_iadd hx dX6_readsMark_67 ?_
    refine pf_X6_at hx wf_X6_52 dX6_readsMark_68 h (fun σ1 h => ?_)
    refine z_aload_n hx 1 dX6_readsMark_71 rfl ?_
    refine gf_X6_marks hx wf_X6_22 dX6_readsMark_72 ?_
    refine z_iload_n hx 2 dX6_readsMark_75 rfl ?_
    refine z_iload_n hx 0 dX6_readsMark_76 rfl ?_
    refine z_iast hx (n := 100) (z_lt1 (z_ok_sd hx) (by decide)) (z_kc5 (z_ok_sd hx)) rfl (by decide) dX6_readsMark_77 h (fun σ2 h => ?_)
    refine z_aload_n hx 1 dX6_readsMark_78 rfl ?_
    refine gf_X6_marks hx wf_X6_22 dX6_readsMark_79 ?_
    refine z_iload_n hx 2 dX6_readsMark_82 rfl ?_
    refine z_iconst hx (n := 1) dX6_readsMark_83 ?_
    refine z_iadd hx dX6_readsMark_84 ?_
    refine z_aload_n hx 1 dX6_readsMark_85 rfl ?_
    refine gf_X6_frameMany hx wf_X6_63 dX6_readsMark_86 ?_
    refine z_iast hx (n := 100) (z_lt1 (z_ok_sd hx) (by decide)) (z_kc5 (z_ok_sd hx)) rfl (by decide) dX6_readsMark_89 h (fun σ3 h => ?_)
    refine z_aload_n hx 1 dX6_readsMark_90 rfl ?_
    refine gf_X6_marks hx wf_X6_22 dX6_readsMark_91 ?_
    refine z_iload_n hx 2 dX6_readsMark_94 rfl ?_
    refine z_iconst hx (n := 3) dX6_readsMark_95 ?_
    refine z_iadd hx dX6_readsMark_96 ?_
    refine z_iconst hx (n := 0) dX6_readsMark_97 ?_
    refine z_iast hx (n := 100) (z_lt1 (z_ok_sd hx) (by decide)) (z_kc5 (z_ok_sd hx)) rfl (by decide) dX6_readsMark_98 h (fun σ4 h => ?_)
    refine z_aload_n hx 1 dX6_readsMark_99 rfl ?_
    refine gf_X6_marks hx wf_X6_22 dX6_readsMark_100 ?_
    refine z_iload_n hx 2 dX6_readsMark_103 rfl ?_
    refine z_iconst hx (n := 4) dX6_readsMark_104 ?_
    refine z_iadd hx dX6_readsMark_105 ?_
    refine z_iconst hx (n := 0) dX6_readsMark_106 ?_
    refine z_iast hx (n := 100) (z_lt1 (z_ok_sd hx) (by decide)) (z_kc5 (z_ok_sd hx)) rfl (by decide) dX6_readsMark_107 h (fun σ5 h => ?_)
    refine z_iload_n hx 0 dX6_readsMark_108 rfl ?_
    refine z_if_ne hx (tgt := 119) dX6_readsMark_109 (by decide) h (fun h => h) (fun hc h => ?_) (fun hc h => ?_)
    · refine z_sub [1, 2] rfl ?_
      exact w_X6_readsMark_b119 hx hn hR hq σ5 x1 h
    · refine z_aload_n hx 1 dX6_readsMark_112 rfl ?_
      obtain ⟨r7, σ6, h113, h⟩ := z_bind_some h
      refine z_calli hx (As := []) (k := 0) (met_X6_doubt (z_l C) (z_g C) (z_ok_sd hx) h113) (z_lt1 (z_ok_sd hx) (by decide)) (z_kc0 (z_ok_sd hx) _) rfl rfl cv_X6_72 (z_room hR ⟨Nat.le_of_ble_eq_true rfl, Nat.le_of_ble_eq_true rfl⟩) ⟨rfl, rfl⟩ rfl rfl (Nat.le_of_ble_eq_true rfl) dX6_readsMark_113 ?_
      refine z_if_eq hx (tgt := 135) dX6_readsMark_116 (by decide) h (fun h => h) (fun hc h => ?_) (fun hc h => ?_)
      · refine z_sub [] rfl ?_
        exact w_X6_readsMark_b135 hx hn hR hq σ6 h
      · refine z_sub [1, 2] rfl ?_
        exact w_X6_readsMark_b119 hx hn hR hq σ6 x1 h
  · refine z_iconst hx (n := 0) dX6_readsMark_59 ?_
    cases h
    exact z_zret hx (by decide) hq dX6_readsMark_60

theorem w_X6_readsMark {C : zC} (hx : z_ok C cX6_readsMark RX6 1) (hn : z_nL C = 4) (hR : z_R C = rm_X6_readsMark) {rr : Int × zS} (hq : z_fin C (some .boolean) (z_QI (z_g C) rr.1 rr.2)) (σ : zS) (h : f_X6_readsMark σ = some rr) : z_W C σ 0 [(0, .ref (z_ad (z_g C) 0))] [] := by
  unfold f_X6_readsMark at h
  refine z_iconst hx (n := 5) dX6_readsMark_0 ?_
  refine z_aload_n hx 0 dX6_readsMark_1 rfl ?_
  refine gf_X6_markMany hx wf_X6_66 dX6_readsMark_2 ?_
  refine z_imul hx dX6_readsMark_5 ?_
  refine z_istore_n hx hn (lv' := [(1, .int (zi (5 * (σ 0 8)))), (0, .ref (z_ad (z_g C) 0))]) dX6_readsMark_6 (by decide) rfl ?_
  refine z_aload_n hx 1 dX6_readsMark_7 rfl ?_
  obtain ⟨r2, σ1, h8, h⟩ := z_bind_some h
  refine z_calli hx (As := []) (k := 0) (met_X6_sign (z_l C) (z_g C) (z_ok_sd hx) h8) (z_lt1 (z_ok_sd hx) (by decide)) (z_kc0 (z_ok_sd hx) _) rfl rfl cv_X6_55 (z_room hR ⟨Nat.le_of_ble_eq_true rfl, Nat.le_of_ble_eq_true rfl⟩) ⟨rfl, rfl⟩ rfl rfl (Nat.le_of_ble_eq_true rfl) dX6_readsMark_8 ?_
  refine z_istore_n hx hn (lv' := [(2, .int (zi r2)), (1, .int (zi (5 * (σ 0 8)))), (0, .ref (z_ad (z_g C) 0))]) dX6_readsMark_11 (by decide) rfl ?_
  refine z_iload_n hx 0 dX6_readsMark_12 rfl ?_
  refine z_bipush hx (n := 102) dX6_readsMark_13 rfl ?_
  refine z_icmp_ne hx (tgt := 22) dX6_readsMark_15 (by decide) h (fun h => ⟨h, by decide⟩) (fun hc h => ?_) (fun hc h => ?_)
  · refine z_iload_n hx 0 dX6_readsMark_22 rfl ?_
    refine z_bipush hx (n := 98) dX6_readsMark_23 rfl ?_
    refine z_icmp_ne hx (tgt := 32) dX6_readsMark_25 (by decide) h (fun h => ⟨h, by decide⟩) (fun hc h => ?_) (fun hc h => ?_)
    · refine z_iload_n hx 0 dX6_readsMark_32 rfl ?_
      refine z_bipush hx (n := 114) dX6_readsMark_33 rfl ?_
      refine z_icmp_ne hx (tgt := 42) dX6_readsMark_35 (by decide) h (fun h => ⟨h, by decide⟩) (fun hc h => ?_) (fun hc h => ?_)
      · refine z_iload_n hx 0 dX6_readsMark_42 rfl ?_
        refine z_bipush hx (n := 110) dX6_readsMark_43 rfl ?_
        refine z_icmp_ne hx (tgt := 52) dX6_readsMark_45 (by decide) h (fun h => ⟨h, by decide⟩) (fun hc h => ?_) (fun hc h => ?_)
        · refine z_bipush hx (n := (-9)) dX6_readsMark_52 rfl ?_
          refine z_sub [2, 1] rfl ?_
          exact w_X6_readsMark_b54 hx hn hR hq σ1 (5 * (σ 0 8)) (-9) h
        · refine z_iconst hx (n := 3) dX6_readsMark_48 ?_
          refine z_goto hx (tgt := 54) dX6_readsMark_49 (by decide) ?_
          refine z_sub [2, 1] rfl ?_
          exact w_X6_readsMark_b54 hx hn hR hq σ1 (5 * (σ 0 8)) 3 h
      · refine z_iconst hx (n := 2) dX6_readsMark_38 ?_
        refine z_goto hx (tgt := 54) dX6_readsMark_39 (by decide) ?_
        refine z_sub [2, 1] rfl ?_
        exact w_X6_readsMark_b54 hx hn hR hq σ1 (5 * (σ 0 8)) 2 h
    · refine z_iconst hx (n := 1) dX6_readsMark_28 ?_
      refine z_goto hx (tgt := 54) dX6_readsMark_29 (by decide) ?_
      refine z_sub [2, 1] rfl ?_
      exact w_X6_readsMark_b54 hx hn hR hq σ1 (5 * (σ 0 8)) 1 h
  · refine z_iconst hx (n := 0) dX6_readsMark_18 ?_
    refine z_goto hx (tgt := 54) dX6_readsMark_19 (by decide) ?_
    refine z_sub [2, 1] rfl ?_
    exact w_X6_readsMark_b54 hx hn hR hq σ1 (5 * (σ 0 8)) 0 h

theorem met_X6_readsMark (l : Launch) (g : zG) (hg : g.1 = 1) {σ : zS} {rr : Int × zS} (h : f_X6_readsMark σ = some rr) : z_Met l yX6_readsMark cX6_readsMark 4 (some .boolean) rm_X6_readsMark g [.ref (z_ad (g) 0)] σ (z_QI g rr.1 rr.2) := by
  refine z_enter (own := RX6) (sd := 1) (lv0 := [(0, .ref (z_ad (g) 0))]) (by decide) rfl (Nat.le_of_ble_eq_true rfl) hg rfl (fun C hx hl hgC hR hn hq => ?_)
  subst hgC
  refine z_sub [0] rfl ?_
  exact w_X6_readsMark hx hn hR hq σ h
theorem dX6_wrongAt_0 : decode cX6_wrongAt 0 = .ok (.aload_n 0, 1) := by decide +kernel
theorem dX6_wrongAt_1 : decode cX6_wrongAt 1 = .ok (.iconst 0, 1) := by decide +kernel
theorem dX6_wrongAt_2 : decode cX6_wrongAt 2 = .ok (.putfield 52, 3) := by decide +kernel
theorem dX6_wrongAt_5 : decode cX6_wrongAt 5 = .ok (.aload_n 0, 1) := by decide +kernel
theorem dX6_wrongAt_6 : decode cX6_wrongAt 6 = .ok (.iconst (-1), 1) := by decide +kernel
theorem dX6_wrongAt_7 : decode cX6_wrongAt 7 = .ok (.putfield 69, 3) := by decide +kernel
theorem dX6_wrongAt_10 : decode cX6_wrongAt 10 = .ok (.aload_n 0, 1) := by decide +kernel
theorem dX6_wrongAt_11 : decode cX6_wrongAt 11 = .ok (.iconst 0, 1) := by decide +kernel
theorem dX6_wrongAt_12 : decode cX6_wrongAt 12 = .ok (.putfield 63, 3) := by decide +kernel
theorem dX6_wrongAt_15 : decode cX6_wrongAt 15 = .ok (.aload_n 0, 1) := by decide +kernel
theorem dX6_wrongAt_16 : decode cX6_wrongAt 16 = .ok (.iconst 0, 1) := by decide +kernel
theorem dX6_wrongAt_17 : decode cX6_wrongAt 17 = .ok (.putfield 66, 3) := by decide +kernel
theorem dX6_wrongAt_20 : decode cX6_wrongAt 20 = .ok (.aload_n 0, 1) := by decide +kernel
theorem dX6_wrongAt_21 : decode cX6_wrongAt 21 = .ok (.getfield 52, 3) := by decide +kernel
theorem dX6_wrongAt_24 : decode cX6_wrongAt 24 = .ok (.aload_n 0, 1) := by decide +kernel
theorem dX6_wrongAt_25 : decode cX6_wrongAt 25 = .ok (.getfield 49, 3) := by decide +kernel
theorem dX6_wrongAt_28 : decode cX6_wrongAt 28 = .ok (.if_icmp .ge 62, 3) := by decide +kernel
theorem dX6_wrongAt_31 : decode cX6_wrongAt 31 = .ok (.aload_n 0, 1) := by decide +kernel
theorem dX6_wrongAt_32 : decode cX6_wrongAt 32 = .ok (.invokevirtual 59, 3) := by decide +kernel
theorem dX6_wrongAt_35 : decode cX6_wrongAt 35 = .ok (.ifCond .eq 10, 3) := by decide +kernel
theorem dX6_wrongAt_38 : decode cX6_wrongAt 38 = .ok (.aload_n 0, 1) := by decide +kernel
theorem dX6_wrongAt_39 : decode cX6_wrongAt 39 = .ok (.invokevirtual 79, 3) := by decide +kernel
theorem dX6_wrongAt_42 : decode cX6_wrongAt 42 = .ok (.goto (-22), 3) := by decide +kernel
theorem dX6_wrongAt_45 : decode cX6_wrongAt 45 = .ok (.aload_n 0, 1) := by decide +kernel
theorem dX6_wrongAt_46 : decode cX6_wrongAt 46 = .ok (.invokevirtual 55, 3) := by decide +kernel
theorem dX6_wrongAt_49 : decode cX6_wrongAt 49 = .ok (.bipush 91, 2) := by decide +kernel
theorem dX6_wrongAt_51 : decode cX6_wrongAt 51 = .ok (.if_icmp .ne 34, 3) := by decide +kernel
theorem dX6_wrongAt_54 : decode cX6_wrongAt 54 = .ok (.aload_n 0, 1) := by decide +kernel
theorem dX6_wrongAt_55 : decode cX6_wrongAt 55 = .ok (.getfield 66, 3) := by decide +kernel
theorem dX6_wrongAt_58 : decode cX6_wrongAt 58 = .ok (.bipush 20, 2) := by decide +kernel
theorem dX6_wrongAt_60 : decode cX6_wrongAt 60 = .ok (.if_icmp .ge 25, 3) := by decide +kernel
theorem dX6_wrongAt_63 : decode cX6_wrongAt 63 = .ok (.aload_n 0, 1) := by decide +kernel
theorem dX6_wrongAt_64 : decode cX6_wrongAt 64 = .ok (.dup, 1) := by decide +kernel
theorem dX6_wrongAt_65 : decode cX6_wrongAt 65 = .ok (.getfield 52, 3) := by decide +kernel
theorem dX6_wrongAt_68 : decode cX6_wrongAt 68 = .ok (.iconst 1, 1) := by decide +kernel
theorem dX6_wrongAt_69 : decode cX6_wrongAt 69 = .ok (.iadd, 1) := by decide +kernel
theorem dX6_wrongAt_70 : decode cX6_wrongAt 70 = .ok (.putfield 52, 3) := by decide +kernel
theorem dX6_wrongAt_73 : decode cX6_wrongAt 73 = .ok (.aload_n 0, 1) := by decide +kernel
theorem dX6_wrongAt_74 : decode cX6_wrongAt 74 = .ok (.invokevirtual 82, 3) := by decide +kernel
theorem dX6_wrongAt_77 : decode cX6_wrongAt 77 = .ok (.ifCond .ne (-57), 3) := by decide +kernel
theorem dX6_wrongAt_80 : decode cX6_wrongAt 80 = .ok (.aload_n 0, 1) := by decide +kernel
theorem dX6_wrongAt_81 : decode cX6_wrongAt 81 = .ok (.getfield 52, 3) := by decide +kernel
theorem dX6_wrongAt_84 : decode cX6_wrongAt 84 = .ok (.ireturn, 1) := by decide +kernel
theorem dX6_wrongAt_85 : decode cX6_wrongAt 85 = .ok (.aload_n 0, 1) := by decide +kernel
theorem dX6_wrongAt_86 : decode cX6_wrongAt 86 = .ok (.getfield 52, 3) := by decide +kernel
theorem dX6_wrongAt_89 : decode cX6_wrongAt 89 = .ok (.ireturn, 1) := by decide +kernel
theorem dX6_wrongAt_90 : decode cX6_wrongAt 90 = .ok (.aload_n 0, 1) := by decide +kernel
theorem dX6_wrongAt_91 : decode cX6_wrongAt 91 = .ok (.getfield 69, 3) := by decide +kernel
theorem dX6_wrongAt_94 : decode cX6_wrongAt 94 = .ok (.ireturn, 1) := by decide +kernel
abbrev rm_X6_wrongAt : Room := { frames := 4, cells := 0, slots := 0, locals := 88 }
theorem w_X6_wrongAt_b85 {C : zC} (hx : z_ok C cX6_wrongAt RX6 1) (hn : z_nL C = 1) (hR : z_R C = rm_X6_wrongAt) {rr : Int × zS} (hq : z_fin C (some .int) (z_QI (z_g C) rr.1 rr.2)) (σ : zS) (h : f_X6_wrongAt_b85 σ = some rr) : z_W C σ 85 [(0, .ref (z_ad (z_g C) 0))] [] := by
  unfold f_X6_wrongAt_b85 at h
  refine z_aload_n hx 0 dX6_wrongAt_85 rfl ?_
  refine gf_X6_at hx wf_X6_52 dX6_wrongAt_86 ?_
  cases h
  exact z_iret hx hq dX6_wrongAt_89

theorem w_X6_wrongAt_b20 {C : zC} (hx : z_ok C cX6_wrongAt RX6 1) (hn : z_nL C = 1) (hR : z_R C = rm_X6_wrongAt) {rr : Int × zS} (hq : z_fin C (some .int) (z_QI (z_g C) rr.1 rr.2)) {K20 : zS → Option (Int × zS)} (hK20 : ∀ (σ : zS) , K20 σ = some rr → z_W C σ 20 [(0, .ref (z_ad (z_g C) 0))] []) (σ : zS) (h : f_X6_wrongAt_b20 K20 σ = some rr) : z_W C σ 20 [(0, .ref (z_ad (z_g C) 0))] [] := by
  unfold f_X6_wrongAt_b20 at h
  refine z_aload_n hx 0 dX6_wrongAt_20 rfl ?_
  refine gf_X6_at hx wf_X6_52 dX6_wrongAt_21 ?_
  refine z_aload_n hx 0 dX6_wrongAt_24 rfl ?_
  refine gf_X6_typed hx wf_X6_49 dX6_wrongAt_25 ?_
  refine z_icmp_ge hx (tgt := 90) dX6_wrongAt_28 (by decide) h (fun h => h) (fun hc h => ?_) (fun hc h => ?_)
  · refine z_aload_n hx 0 dX6_wrongAt_90 rfl ?_
    refine gf_X6_wrong hx wf_X6_69 dX6_wrongAt_91 ?_
    cases h
    exact z_iret hx hq dX6_wrongAt_94
  · refine z_aload_n hx 0 dX6_wrongAt_31 rfl ?_
    obtain ⟨r2, σ1, h32, h⟩ := z_bind_some h
    refine z_calli hx (As := []) (k := 0) (met_X6_isDigit (z_l C) (z_g C) (z_ok_sd hx) h32) (z_lt1 (z_ok_sd hx) (by decide)) (z_kc0 (z_ok_sd hx) _) rfl rfl cv_X6_59 (z_room hR ⟨Nat.le_of_ble_eq_true rfl, Nat.le_of_ble_eq_true rfl⟩) ⟨rfl, rfl⟩ rfl rfl (Nat.le_of_ble_eq_true rfl) dX6_wrongAt_32 ?_
    refine z_if_eq hx (tgt := 45) dX6_wrongAt_35 (by decide) h (fun h => h) (fun hc h => ?_) (fun hc h => ?_)
    · refine z_aload_n hx 0 dX6_wrongAt_45 rfl ?_
      obtain ⟨r4, σ3, h46, h⟩ := z_bind_some h
      refine z_calli hx (As := []) (k := 0) (met_X6_sign (z_l C) (z_g C) (z_ok_sd hx) h46) (z_lt1 (z_ok_sd hx) (by decide)) (z_kc0 (z_ok_sd hx) _) rfl rfl cv_X6_55 (z_room hR ⟨Nat.le_of_ble_eq_true rfl, Nat.le_of_ble_eq_true rfl⟩) ⟨rfl, rfl⟩ rfl rfl (Nat.le_of_ble_eq_true rfl) dX6_wrongAt_46 ?_
      refine z_bipush hx (n := 91) dX6_wrongAt_49 rfl ?_
      refine z_icmp_ne hx (tgt := 85) dX6_wrongAt_51 (by decide) h (fun h => ⟨h, by decide⟩) (fun hc h => ?_) (fun hc h => ?_)
      · refine z_sub [0] rfl ?_
        exact w_X6_wrongAt_b85 hx hn hR hq σ3 h
      · refine z_aload_n hx 0 dX6_wrongAt_54 rfl ?_
        refine gf_X6_markMany hx wf_X6_66 dX6_wrongAt_55 ?_
        refine z_bipush hx (n := 20) dX6_wrongAt_58 rfl ?_
        refine z_icmp_ge hx (tgt := 85) dX6_wrongAt_60 (by decide) h (fun h => ⟨h, by decide⟩) (fun hc h => ?_) (fun hc h => ?_)
        · refine z_sub [0] rfl ?_
          exact w_X6_wrongAt_b85 hx hn hR hq σ3 h
        · refine z_aload_n hx 0 dX6_wrongAt_63 rfl ?_
          refine z_dup hx dX6_wrongAt_64 rfl ?_
          refine gf_X6_at hx wf_X6_52 dX6_wrongAt_65 ?_
          refine z_iconst hx (n := 1) dX6_wrongAt_68 ?_
          refine z_iadd hx dX6_wrongAt_69 ?_
          refine pf_X6_at hx wf_X6_52 dX6_wrongAt_70 h (fun σ5 h => ?_)
          refine z_aload_n hx 0 dX6_wrongAt_73 rfl ?_
          obtain ⟨r7, σ6, h74, h⟩ := z_bind_some h
          refine z_calli hx (As := []) (k := 0) (met_X6_readsMark (z_l C) (z_g C) (z_ok_sd hx) h74) (z_lt1 (z_ok_sd hx) (by decide)) (z_kc0 (z_ok_sd hx) _) rfl rfl cv_X6_82 (z_room hR ⟨Nat.le_of_ble_eq_true rfl, Nat.le_of_ble_eq_true rfl⟩) ⟨rfl, rfl⟩ rfl rfl (Nat.le_of_ble_eq_true rfl) dX6_wrongAt_74 ?_
          refine z_if_ne hx (tgt := 20) dX6_wrongAt_77 (by decide) h (fun h => h) (fun hc h => ?_) (fun hc h => ?_)
          · refine z_sub [0] rfl ?_
            exact hK20 σ6 h
          · refine z_aload_n hx 0 dX6_wrongAt_80 rfl ?_
            refine gf_X6_at hx wf_X6_52 dX6_wrongAt_81 ?_
            cases h
            exact z_iret hx hq dX6_wrongAt_84
    · refine z_aload_n hx 0 dX6_wrongAt_38 rfl ?_
      obtain ⟨⟨⟩, σ8, h39, h⟩ := z_bind_some h
      refine z_callv hx (As := []) (k := 0) (met_X6_takesFrames (z_l C) (z_g C) (z_ok_sd hx) h39) (z_lt1 (z_ok_sd hx) (by decide)) (z_kc0 (z_ok_sd hx) _) rfl rfl cv_X6_79 (z_room hR ⟨Nat.le_of_ble_eq_true rfl, Nat.le_of_ble_eq_true rfl⟩) ⟨rfl, rfl⟩ rfl rfl (Nat.le_of_ble_eq_true rfl) dX6_wrongAt_39 ?_
      refine z_goto hx (tgt := 20) dX6_wrongAt_42 (by decide) ?_
      refine z_sub [0] rfl ?_
      exact hK20 σ8 h

theorem w_X6_wrongAt_l20 {C : zC} (hx : z_ok C cX6_wrongAt RX6 1) (hn : z_nL C = 1) (hR : z_R C = rm_X6_wrongAt) {rr : Int × zS} (hq : z_fin C (some .int) (z_QI (z_g C) rr.1 rr.2)) : ∀ (n : Nat) (σ : zS) (_ : f_X6_wrongAt_l20 n σ = some rr), z_W C σ 20 [(0, .ref (z_ad (z_g C) 0))] [] := by
  intro n
  induction n with
  | zero => intro σ h; cases h
  | succ n ih =>
    intro σ h
    exact w_X6_wrongAt_b20 hx hn hR hq ih σ h
theorem w_X6_wrongAt {C : zC} (hx : z_ok C cX6_wrongAt RX6 1) (hn : z_nL C = 1) (hR : z_R C = rm_X6_wrongAt) {rr : Int × zS} (hq : z_fin C (some .int) (z_QI (z_g C) rr.1 rr.2)) (σ : zS) (h : f_X6_wrongAt σ = some rr) : z_W C σ 0 [(0, .ref (z_ad (z_g C) 0))] [] := by
  unfold f_X6_wrongAt at h
  refine z_aload_n hx 0 dX6_wrongAt_0 rfl ?_
  refine z_iconst hx (n := 0) dX6_wrongAt_1 ?_
  refine pf_X6_at hx wf_X6_52 dX6_wrongAt_2 h (fun σ1 h => ?_)
  refine z_aload_n hx 0 dX6_wrongAt_5 rfl ?_
  refine z_iconst hx (n := (-1)) dX6_wrongAt_6 ?_
  refine pf_X6_wrong hx wf_X6_69 dX6_wrongAt_7 h (fun σ2 h => ?_)
  refine z_aload_n hx 0 dX6_wrongAt_10 rfl ?_
  refine z_iconst hx (n := 0) dX6_wrongAt_11 ?_
  refine pf_X6_frameMany hx wf_X6_63 dX6_wrongAt_12 h (fun σ3 h => ?_)
  refine z_aload_n hx 0 dX6_wrongAt_15 rfl ?_
  refine z_iconst hx (n := 0) dX6_wrongAt_16 ?_
  refine pf_X6_markMany hx wf_X6_66 dX6_wrongAt_17 h (fun σ4 h => ?_)
  refine z_sub [0] rfl ?_
  exact w_X6_wrongAt_l20 hx hn hR hq z_fuel σ4 h

theorem met_X6_wrongAt (l : Launch) (g : zG) (hg : g.1 = 1) {σ : zS} {rr : Int × zS} (h : f_X6_wrongAt σ = some rr) : z_Met l yX6_wrongAt cX6_wrongAt 1 (some .int) rm_X6_wrongAt g [.ref (z_ad (g) 0)] σ (z_QI g rr.1 rr.2) := by
  refine z_enter (own := RX6) (sd := 1) (lv0 := [(0, .ref (z_ad (g) 0))]) (by decide) rfl (Nat.le_of_ble_eq_true rfl) hg rfl (fun C hx hl hgC hR hn hq => ?_)
  subst hgC
  refine z_sub [0] rfl ?_
  exact w_X6_wrongAt hx hn hR hq σ h
theorem dX6_read_0 : decode cX6_read 0 = .ok (.aload_n 0, 1) := by decide +kernel
theorem dX6_read_1 : decode cX6_read 1 = .ok (.invokevirtual 85, 3) := by decide +kernel
theorem dX6_read_4 : decode cX6_read 4 = .ok (.istore_n 1, 1) := by decide +kernel
theorem dX6_read_5 : decode cX6_read 5 = .ok (.iload_n 1, 1) := by decide +kernel
theorem dX6_read_6 : decode cX6_read 6 = .ok (.ifCond .lt 8, 3) := by decide +kernel
theorem dX6_read_9 : decode cX6_read 9 = .ok (.bipush (-100), 2) := by decide +kernel
theorem dX6_read_11 : decode cX6_read 11 = .ok (.iload_n 1, 1) := by decide +kernel
theorem dX6_read_12 : decode cX6_read 12 = .ok (.isub, 1) := by decide +kernel
theorem dX6_read_13 : decode cX6_read 13 = .ok (.ireturn, 1) := by decide +kernel
theorem dX6_read_14 : decode cX6_read 14 = .ok (.aload_n 0, 1) := by decide +kernel
theorem dX6_read_15 : decode cX6_read 15 = .ok (.invokevirtual 88, 3) := by decide +kernel
theorem dX6_read_18 : decode cX6_read 18 = .ok (.aload_n 0, 1) := by decide +kernel
theorem dX6_read_19 : decode cX6_read 19 = .ok (.getfield 7, 3) := by decide +kernel
theorem dX6_read_22 : decode cX6_read 22 = .ok (.bipush 7, 2) := by decide +kernel
theorem dX6_read_24 : decode cX6_read 24 = .ok (.aload_n 0, 1) := by decide +kernel
theorem dX6_read_25 : decode cX6_read 25 = .ok (.getfield 63, 3) := by decide +kernel
theorem dX6_read_28 : decode cX6_read 28 = .ok (.iastore, 1) := by decide +kernel
theorem dX6_read_29 : decode cX6_read 29 = .ok (.aload_n 0, 1) := by decide +kernel
theorem dX6_read_30 : decode cX6_read 30 = .ok (.getfield 7, 3) := by decide +kernel
theorem dX6_read_33 : decode cX6_read 33 = .ok (.bipush 8, 2) := by decide +kernel
theorem dX6_read_35 : decode cX6_read 35 = .ok (.aload_n 0, 1) := by decide +kernel
theorem dX6_read_36 : decode cX6_read 36 = .ok (.getfield 66, 3) := by decide +kernel
theorem dX6_read_39 : decode cX6_read 39 = .ok (.iastore, 1) := by decide +kernel
theorem dX6_read_40 : decode cX6_read 40 = .ok (.iconst 0, 1) := by decide +kernel
theorem dX6_read_41 : decode cX6_read 41 = .ok (.istore_n 2, 1) := by decide +kernel
theorem dX6_read_42 : decode cX6_read 42 = .ok (.iload_n 2, 1) := by decide +kernel
theorem dX6_read_43 : decode cX6_read 43 = .ok (.aload_n 0, 1) := by decide +kernel
theorem dX6_read_44 : decode cX6_read 44 = .ok (.getfield 63, 3) := by decide +kernel
theorem dX6_read_47 : decode cX6_read 47 = .ok (.if_icmp .ge 24, 3) := by decide +kernel
theorem dX6_read_50 : decode cX6_read 50 = .ok (.aload_n 0, 1) := by decide +kernel
theorem dX6_read_51 : decode cX6_read 51 = .ok (.getfield 7, 3) := by decide +kernel
theorem dX6_read_54 : decode cX6_read 54 = .ok (.bipush 10, 2) := by decide +kernel
theorem dX6_read_56 : decode cX6_read 56 = .ok (.iload_n 2, 1) := by decide +kernel
theorem dX6_read_57 : decode cX6_read 57 = .ok (.iadd, 1) := by decide +kernel
theorem dX6_read_58 : decode cX6_read 58 = .ok (.aload_n 0, 1) := by decide +kernel
theorem dX6_read_59 : decode cX6_read 59 = .ok (.getfield 19, 3) := by decide +kernel
theorem dX6_read_62 : decode cX6_read 62 = .ok (.iload_n 2, 1) := by decide +kernel
theorem dX6_read_63 : decode cX6_read 63 = .ok (.iaload, 1) := by decide +kernel
theorem dX6_read_64 : decode cX6_read 64 = .ok (.iastore, 1) := by decide +kernel
theorem dX6_read_65 : decode cX6_read 65 = .ok (.iinc 2 1, 3) := by decide +kernel
theorem dX6_read_68 : decode cX6_read 68 = .ok (.goto (-26), 3) := by decide +kernel
theorem dX6_read_71 : decode cX6_read 71 = .ok (.iconst 0, 1) := by decide +kernel
theorem dX6_read_72 : decode cX6_read 72 = .ok (.istore_n 2, 1) := by decide +kernel
theorem dX6_read_73 : decode cX6_read 73 = .ok (.iload_n 2, 1) := by decide +kernel
theorem dX6_read_74 : decode cX6_read 74 = .ok (.iconst 5, 1) := by decide +kernel
theorem dX6_read_75 : decode cX6_read 75 = .ok (.aload_n 0, 1) := by decide +kernel
theorem dX6_read_76 : decode cX6_read 76 = .ok (.getfield 66, 3) := by decide +kernel
theorem dX6_read_79 : decode cX6_read 79 = .ok (.imul, 1) := by decide +kernel
theorem dX6_read_80 : decode cX6_read 80 = .ok (.if_icmp .ge 25, 3) := by decide +kernel
theorem dX6_read_83 : decode cX6_read 83 = .ok (.aload_n 0, 1) := by decide +kernel
theorem dX6_read_84 : decode cX6_read 84 = .ok (.getfield 7, 3) := by decide +kernel
theorem dX6_read_87 : decode cX6_read 87 = .ok (.sipush 210, 3) := by decide +kernel
theorem dX6_read_90 : decode cX6_read 90 = .ok (.iload_n 2, 1) := by decide +kernel
theorem dX6_read_91 : decode cX6_read 91 = .ok (.iadd, 1) := by decide +kernel
theorem dX6_read_92 : decode cX6_read 92 = .ok (.aload_n 0, 1) := by decide +kernel
theorem dX6_read_93 : decode cX6_read 93 = .ok (.getfield 22, 3) := by decide +kernel
theorem dX6_read_96 : decode cX6_read 96 = .ok (.iload_n 2, 1) := by decide +kernel
theorem dX6_read_97 : decode cX6_read 97 = .ok (.iaload, 1) := by decide +kernel
theorem dX6_read_98 : decode cX6_read 98 = .ok (.iastore, 1) := by decide +kernel
theorem dX6_read_99 : decode cX6_read 99 = .ok (.iinc 2 1, 3) := by decide +kernel
theorem dX6_read_102 : decode cX6_read 102 = .ok (.goto (-29), 3) := by decide +kernel
theorem dX6_read_105 : decode cX6_read 105 = .ok (.aload_n 0, 1) := by decide +kernel
theorem dX6_read_106 : decode cX6_read 106 = .ok (.iconst 0, 1) := by decide +kernel
theorem dX6_read_107 : decode cX6_read 107 = .ok (.putfield 49, 3) := by decide +kernel
theorem dX6_read_110 : decode cX6_read 110 = .ok (.aload_n 0, 1) := by decide +kernel
theorem dX6_read_111 : decode cX6_read 111 = .ok (.getfield 63, 3) := by decide +kernel
theorem dX6_read_114 : decode cX6_read 114 = .ok (.ireturn, 1) := by decide +kernel
abbrev rm_X6_read : Room := { frames := 5, cells := 0, slots := 0, locals := 108 }
theorem w_X6_read_b73 {C : zC} (hx : z_ok C cX6_read RX6 1) (hn : z_nL C = 3) (hR : z_R C = rm_X6_read) {rr : Int × zS} (hq : z_fin C (some .int) (z_QI (z_g C) rr.1 rr.2)) {K73 : zS → Int → Option (Int × zS)} (hK73 : ∀ (σ : zS) (x2 : Int) , K73 σ x2 = some rr → z_W C σ 73 [(0, .ref (z_ad (z_g C) 0)), (2, .int (zi x2))] []) (σ : zS) (x2 : Int) (h : f_X6_read_b73 K73 σ x2 = some rr) : z_W C σ 73 [(0, .ref (z_ad (z_g C) 0)), (2, .int (zi x2))] [] := by
  unfold f_X6_read_b73 at h
  refine z_iload_n hx 1 dX6_read_73 rfl ?_
  refine z_iconst hx (n := 5) dX6_read_74 ?_
  refine z_aload_n hx 0 dX6_read_75 rfl ?_
  refine gf_X6_markMany hx wf_X6_66 dX6_read_76 ?_
  refine z_imul hx dX6_read_79 ?_
  refine z_icmp_ge hx (tgt := 105) dX6_read_80 (by decide) h (fun h => h) (fun hc h => ?_) (fun hc h => ?_)
  · refine z_aload_n hx 0 dX6_read_105 rfl ?_
    refine z_iconst hx (n := 0) dX6_read_106 ?_
    refine pf_X6_typed hx wf_X6_49 dX6_read_107 h (fun σ1 h => ?_)
    refine z_aload_n hx 0 dX6_read_110 rfl ?_
    refine gf_X6_frameMany hx wf_X6_63 dX6_read_111 ?_
    cases h
    exact z_iret hx hq dX6_read_114
  · refine z_aload_n hx 0 dX6_read_83 rfl ?_
    refine gf_X6_v hx wf_X6_7 dX6_read_84 ?_
    refine z_sipush hx (n := 210) dX6_read_87 rfl ?_
    refine z_iload_n hx 1 dX6_read_90 rfl ?_
    refine z_iadd hx dX6_read_91 ?_
    refine z_aload_n hx 0 dX6_read_92 rfl ?_
    refine gf_X6_marks hx wf_X6_22 dX6_read_93 ?_
    refine z_iload_n hx 1 dX6_read_96 rfl ?_
    refine z_iald hx (n := 100) (z_lt1 (z_ok_sd hx) (by decide)) (z_kc5 (z_ok_sd hx) _) rfl (by decide) dX6_read_97 h (fun h => ?_)
    refine z_iast hx (n := 320) (z_lt1 (z_ok_sd hx) (by decide)) (z_kc1 (z_ok_sd hx)) rfl (by decide) dX6_read_98 h (fun σ2 h => ?_)
    refine z_iinc hx hn 1 (lv' := [(2, .int (zi (x2 + 1))), (0, .ref (z_ad (z_g C) 0))]) dX6_read_99 rfl (by decide) rfl ?_
    refine z_goto hx (tgt := 73) dX6_read_102 (by decide) ?_
    refine z_sub [1, 0] rfl ?_
    exact hK73 σ2 (x2 + 1) h

theorem w_X6_read_l73 {C : zC} (hx : z_ok C cX6_read RX6 1) (hn : z_nL C = 3) (hR : z_R C = rm_X6_read) {rr : Int × zS} (hq : z_fin C (some .int) (z_QI (z_g C) rr.1 rr.2)) : ∀ (n : Nat) (σ : zS) (x2 : Int) (_ : f_X6_read_l73 n σ x2 = some rr), z_W C σ 73 [(0, .ref (z_ad (z_g C) 0)), (2, .int (zi x2))] [] := by
  intro n
  induction n with
  | zero => intro σ x2 h; cases h
  | succ n ih =>
    intro σ x2 h
    exact w_X6_read_b73 hx hn hR hq ih σ x2 h
theorem w_X6_read_b42 {C : zC} (hx : z_ok C cX6_read RX6 1) (hn : z_nL C = 3) (hR : z_R C = rm_X6_read) {rr : Int × zS} (hq : z_fin C (some .int) (z_QI (z_g C) rr.1 rr.2)) {K42 : zS → Int → Option (Int × zS)} (hK42 : ∀ (σ : zS) (x2 : Int) , K42 σ x2 = some rr → z_W C σ 42 [(0, .ref (z_ad (z_g C) 0)), (2, .int (zi x2))] []) (σ : zS) (x2 : Int) (h : f_X6_read_b42 K42 σ x2 = some rr) : z_W C σ 42 [(0, .ref (z_ad (z_g C) 0)), (2, .int (zi x2))] [] := by
  unfold f_X6_read_b42 at h
  refine z_iload_n hx 1 dX6_read_42 rfl ?_
  refine z_aload_n hx 0 dX6_read_43 rfl ?_
  refine gf_X6_frameMany hx wf_X6_63 dX6_read_44 ?_
  refine z_icmp_ge hx (tgt := 71) dX6_read_47 (by decide) h (fun h => h) (fun hc h => ?_) (fun hc h => ?_)
  · refine z_iconst hx (n := 0) dX6_read_71 ?_
    refine z_istore_n hx hn (lv' := [(2, .int (zi 0)), (0, .ref (z_ad (z_g C) 0))]) dX6_read_72 (by decide) rfl ?_
    refine z_sub [1, 0] rfl ?_
    exact w_X6_read_l73 hx hn hR hq z_fuel σ 0 h
  · refine z_aload_n hx 0 dX6_read_50 rfl ?_
    refine gf_X6_v hx wf_X6_7 dX6_read_51 ?_
    refine z_bipush hx (n := 10) dX6_read_54 rfl ?_
    refine z_iload_n hx 1 dX6_read_56 rfl ?_
    refine z_iadd hx dX6_read_57 ?_
    refine z_aload_n hx 0 dX6_read_58 rfl ?_
    refine gf_X6_levels hx wf_X6_19 dX6_read_59 ?_
    refine z_iload_n hx 1 dX6_read_62 rfl ?_
    refine z_iald hx (n := 120) (z_lt1 (z_ok_sd hx) (by decide)) (z_kc4 (z_ok_sd hx) _) rfl (by decide) dX6_read_63 h (fun h => ?_)
    refine z_iast hx (n := 320) (z_lt1 (z_ok_sd hx) (by decide)) (z_kc1 (z_ok_sd hx)) rfl (by decide) dX6_read_64 h (fun σ1 h => ?_)
    refine z_iinc hx hn 1 (lv' := [(2, .int (zi (x2 + 1))), (0, .ref (z_ad (z_g C) 0))]) dX6_read_65 rfl (by decide) rfl ?_
    refine z_goto hx (tgt := 42) dX6_read_68 (by decide) ?_
    refine z_sub [1, 0] rfl ?_
    exact hK42 σ1 (x2 + 1) h

theorem w_X6_read_l42 {C : zC} (hx : z_ok C cX6_read RX6 1) (hn : z_nL C = 3) (hR : z_R C = rm_X6_read) {rr : Int × zS} (hq : z_fin C (some .int) (z_QI (z_g C) rr.1 rr.2)) : ∀ (n : Nat) (σ : zS) (x2 : Int) (_ : f_X6_read_l42 n σ x2 = some rr), z_W C σ 42 [(0, .ref (z_ad (z_g C) 0)), (2, .int (zi x2))] [] := by
  intro n
  induction n with
  | zero => intro σ x2 h; cases h
  | succ n ih =>
    intro σ x2 h
    exact w_X6_read_b42 hx hn hR hq ih σ x2 h
theorem w_X6_read {C : zC} (hx : z_ok C cX6_read RX6 1) (hn : z_nL C = 3) (hR : z_R C = rm_X6_read) {rr : Int × zS} (hq : z_fin C (some .int) (z_QI (z_g C) rr.1 rr.2)) (σ : zS) (h : f_X6_read σ = some rr) : z_W C σ 0 [(0, .ref (z_ad (z_g C) 0))] [] := by
  unfold f_X6_read at h
  refine z_aload_n hx 0 dX6_read_0 rfl ?_
  obtain ⟨r2, σ1, h1, h⟩ := z_bind_some h
  refine z_calli hx (As := []) (k := 0) (met_X6_wrongAt (z_l C) (z_g C) (z_ok_sd hx) h1) (z_lt1 (z_ok_sd hx) (by decide)) (z_kc0 (z_ok_sd hx) _) rfl rfl cv_X6_85 (z_room hR ⟨Nat.le_of_ble_eq_true rfl, Nat.le_of_ble_eq_true rfl⟩) ⟨rfl, rfl⟩ rfl rfl (Nat.le_of_ble_eq_true rfl) dX6_read_1 ?_
  refine z_istore_n hx hn (lv' := [(1, .int (zi r2)), (0, .ref (z_ad (z_g C) 0))]) dX6_read_4 (by decide) rfl ?_
  refine z_iload_n hx 0 dX6_read_5 rfl ?_
  refine z_if_lt hx (tgt := 14) dX6_read_6 (by decide) h (fun h => h) (fun hc h => ?_) (fun hc h => ?_)
  · refine z_aload_n hx 1 dX6_read_14 rfl ?_
    obtain ⟨⟨⟩, σ3, h15, h⟩ := z_bind_some h
    refine z_callv hx (As := []) (k := 0) (met_X6_act (z_l C) (z_g C) (z_ok_sd hx) h15) (z_lt1 (z_ok_sd hx) (by decide)) (z_kc0 (z_ok_sd hx) _) rfl rfl cv_X6_88 (z_room hR ⟨Nat.le_of_ble_eq_true rfl, Nat.le_of_ble_eq_true rfl⟩) ⟨rfl, rfl⟩ rfl rfl (Nat.le_of_ble_eq_true rfl) dX6_read_15 ?_
    refine z_aload_n hx 1 dX6_read_18 rfl ?_
    refine gf_X6_v hx wf_X6_7 dX6_read_19 ?_
    refine z_bipush hx (n := 7) dX6_read_22 rfl ?_
    refine z_aload_n hx 1 dX6_read_24 rfl ?_
    refine gf_X6_frameMany hx wf_X6_63 dX6_read_25 ?_
    refine z_iast hx (n := 320) (z_lt1 (z_ok_sd hx) (by decide)) (z_kc1 (z_ok_sd hx)) rfl (by decide) dX6_read_28 h (fun σ4 h => ?_)
    refine z_aload_n hx 1 dX6_read_29 rfl ?_
    refine gf_X6_v hx wf_X6_7 dX6_read_30 ?_
    refine z_bipush hx (n := 8) dX6_read_33 rfl ?_
    refine z_aload_n hx 1 dX6_read_35 rfl ?_
    refine gf_X6_markMany hx wf_X6_66 dX6_read_36 ?_
    refine z_iast hx (n := 320) (z_lt1 (z_ok_sd hx) (by decide)) (z_kc1 (z_ok_sd hx)) rfl (by decide) dX6_read_39 h (fun σ5 h => ?_)
    refine z_iconst hx (n := 0) dX6_read_40 ?_
    refine z_istore_n hx hn (lv' := [(2, .int (zi 0)), (1, .int (zi r2)), (0, .ref (z_ad (z_g C) 0))]) dX6_read_41 (by decide) rfl ?_
    refine z_sub [2, 0] rfl ?_
    exact w_X6_read_l42 hx hn hR hq z_fuel σ5 0 h
  · refine z_bipush hx (n := (-100)) dX6_read_9 rfl ?_
    refine z_iload_n hx 0 dX6_read_11 rfl ?_
    refine z_isub hx dX6_read_12 ?_
    cases h
    exact z_iret hx hq dX6_read_13

theorem met_X6_read (l : Launch) (g : zG) (hg : g.1 = 1) {σ : zS} {rr : Int × zS} (h : f_X6_read σ = some rr) : z_Met l yX6_read cX6_read 3 (some .int) rm_X6_read g [.ref (z_ad (g) 0)] σ (z_QI g rr.1 rr.2) := by
  refine z_enter (own := RX6) (sd := 1) (lv0 := [(0, .ref (z_ad (g) 0))]) (by decide) rfl (Nat.le_of_ble_eq_true rfl) hg rfl (fun C hx hl hgC hR hn hq => ?_)
  subst hgC
  refine z_sub [0] rfl ?_
  exact w_X6_read hx hn hR hq σ h
theorem dX6_append_0 : decode cX6_append 0 = .ok (.iload_n 1, 1) := by decide +kernel
theorem dX6_append_1 : decode cX6_append 1 = .ok (.iconst 0, 1) := by decide +kernel
theorem dX6_append_2 : decode cX6_append 2 = .ok (.bipush 9, 2) := by decide +kernel
theorem dX6_append_4 : decode cX6_append 4 = .ok (.invokestatic 41, 3) := by decide +kernel
theorem dX6_append_7 : decode cX6_append 7 = .ok (.ifCond .eq 14, 3) := by decide +kernel
theorem dX6_append_10 : decode cX6_append 10 = .ok (.iload_n 2, 1) := by decide +kernel
theorem dX6_append_11 : decode cX6_append 11 = .ok (.iconst 1, 1) := by decide +kernel
theorem dX6_append_12 : decode cX6_append 12 = .ok (.sipush 200, 3) := by decide +kernel
theorem dX6_append_15 : decode cX6_append 15 = .ok (.invokestatic 41, 3) := by decide +kernel
theorem dX6_append_18 : decode cX6_append 18 = .ok (.ifCond .ne 5, 3) := by decide +kernel
theorem dX6_append_21 : decode cX6_append 21 = .ok (.iconst (-1), 1) := by decide +kernel
theorem dX6_append_22 : decode cX6_append 22 = .ok (.ireturn, 1) := by decide +kernel
theorem dX6_append_23 : decode cX6_append 23 = .ok (.aload_n 0, 1) := by decide +kernel
theorem dX6_append_24 : decode cX6_append 24 = .ok (.getfield 7, 3) := by decide +kernel
theorem dX6_append_27 : decode cX6_append 27 = .ok (.bipush 7, 2) := by decide +kernel
theorem dX6_append_29 : decode cX6_append 29 = .ok (.iaload, 1) := by decide +kernel
theorem dX6_append_30 : decode cX6_append 30 = .ok (.iload_n 2, 1) := by decide +kernel
theorem dX6_append_31 : decode cX6_append 31 = .ok (.iadd, 1) := by decide +kernel
theorem dX6_append_32 : decode cX6_append 32 = .ok (.sipush 200, 3) := by decide +kernel
theorem dX6_append_35 : decode cX6_append 35 = .ok (.if_icmp .le 6, 3) := by decide +kernel
theorem dX6_append_38 : decode cX6_append 38 = .ok (.bipush (-3), 2) := by decide +kernel
theorem dX6_append_40 : decode cX6_append 40 = .ok (.ireturn, 1) := by decide +kernel
theorem dX6_append_41 : decode cX6_append 41 = .ok (.aload_n 0, 1) := by decide +kernel
theorem dX6_append_42 : decode cX6_append 42 = .ok (.invokevirtual 88, 3) := by decide +kernel
theorem dX6_append_45 : decode cX6_append 45 = .ok (.iconst 0, 1) := by decide +kernel
theorem dX6_append_46 : decode cX6_append 46 = .ok (.istore_n 3, 1) := by decide +kernel
theorem dX6_append_47 : decode cX6_append 47 = .ok (.iload_n 3, 1) := by decide +kernel
theorem dX6_append_48 : decode cX6_append 48 = .ok (.iload_n 2, 1) := by decide +kernel
theorem dX6_append_49 : decode cX6_append 49 = .ok (.if_icmp .ge 36, 3) := by decide +kernel
theorem dX6_append_52 : decode cX6_append 52 = .ok (.aload_n 0, 1) := by decide +kernel
theorem dX6_append_53 : decode cX6_append 53 = .ok (.getfield 7, 3) := by decide +kernel
theorem dX6_append_56 : decode cX6_append 56 = .ok (.bipush 10, 2) := by decide +kernel
theorem dX6_append_58 : decode cX6_append 58 = .ok (.aload_n 0, 1) := by decide +kernel
theorem dX6_append_59 : decode cX6_append 59 = .ok (.getfield 7, 3) := by decide +kernel
theorem dX6_append_62 : decode cX6_append 62 = .ok (.bipush 7, 2) := by decide +kernel
theorem dX6_append_64 : decode cX6_append 64 = .ok (.iaload, 1) := by decide +kernel
theorem dX6_append_65 : decode cX6_append 65 = .ok (.iadd, 1) := by decide +kernel
theorem dX6_append_66 : decode cX6_append 66 = .ok (.iload_n 1, 1) := by decide +kernel
theorem dX6_append_67 : decode cX6_append 67 = .ok (.iastore, 1) := by decide +kernel
theorem dX6_append_68 : decode cX6_append 68 = .ok (.aload_n 0, 1) := by decide +kernel
theorem dX6_append_69 : decode cX6_append 69 = .ok (.getfield 7, 3) := by decide +kernel
theorem dX6_append_72 : decode cX6_append 72 = .ok (.bipush 7, 2) := by decide +kernel
theorem dX6_append_74 : decode cX6_append 74 = .ok (.dup2, 1) := by decide +kernel
theorem dX6_append_75 : decode cX6_append 75 = .ok (.iaload, 1) := by decide +kernel
theorem dX6_append_76 : decode cX6_append 76 = .ok (.iconst 1, 1) := by decide +kernel
theorem dX6_append_77 : decode cX6_append 77 = .ok (.iadd, 1) := by decide +kernel
theorem dX6_append_78 : decode cX6_append 78 = .ok (.iastore, 1) := by decide +kernel
theorem dX6_append_79 : decode cX6_append 79 = .ok (.iinc 3 1, 3) := by decide +kernel
theorem dX6_append_82 : decode cX6_append 82 = .ok (.goto (-35), 3) := by decide +kernel
theorem dX6_append_85 : decode cX6_append 85 = .ok (.aload_n 0, 1) := by decide +kernel
theorem dX6_append_86 : decode cX6_append 86 = .ok (.getfield 7, 3) := by decide +kernel
theorem dX6_append_89 : decode cX6_append 89 = .ok (.bipush 7, 2) := by decide +kernel
theorem dX6_append_91 : decode cX6_append 91 = .ok (.iaload, 1) := by decide +kernel
theorem dX6_append_92 : decode cX6_append 92 = .ok (.ireturn, 1) := by decide +kernel
abbrev rm_X6_append : Room := { frames := 1, cells := 0, slots := 0, locals := 22 }
theorem w_X6_append_b47 {C : zC} (hx : z_ok C cX6_append RX6 1) (hn : z_nL C = 4) (hR : z_R C = rm_X6_append) {rr : Int × zS} (hq : z_fin C (some .int) (z_QI (z_g C) rr.1 rr.2)) {K47 : zS → Int → Int → Int → Option (Int × zS)} (hK47 : ∀ (σ : zS) (x1 : Int) (x2 : Int) (x3 : Int) , K47 σ x1 x2 x3 = some rr → z_W C σ 47 [(0, .ref (z_ad (z_g C) 0)), (1, .int (zi x1)), (2, .int (zi x2)), (3, .int (zi x3))] []) (σ : zS) (x1 : Int) (x2 : Int) (x3 : Int) (h : f_X6_append_b47 K47 σ x1 x2 x3 = some rr) : z_W C σ 47 [(0, .ref (z_ad (z_g C) 0)), (1, .int (zi x1)), (2, .int (zi x2)), (3, .int (zi x3))] [] := by
  unfold f_X6_append_b47 at h
  refine z_iload_n hx 3 dX6_append_47 rfl ?_
  refine z_iload_n hx 2 dX6_append_48 rfl ?_
  refine z_icmp_ge hx (tgt := 85) dX6_append_49 (by decide) h (fun h => h) (fun hc h => ?_) (fun hc h => ?_)
  · refine z_aload_n hx 0 dX6_append_85 rfl ?_
    refine gf_X6_v hx wf_X6_7 dX6_append_86 ?_
    refine z_bipush hx (n := 7) dX6_append_89 rfl ?_
    refine z_iald hx (n := 320) (z_lt1 (z_ok_sd hx) (by decide)) (z_kc1 (z_ok_sd hx) _) rfl (by decide) dX6_append_91 h (fun h => ?_)
    cases h
    exact z_iret hx hq dX6_append_92
  · refine z_aload_n hx 0 dX6_append_52 rfl ?_
    refine gf_X6_v hx wf_X6_7 dX6_append_53 ?_
    refine z_bipush hx (n := 10) dX6_append_56 rfl ?_
    refine z_aload_n hx 0 dX6_append_58 rfl ?_
    refine gf_X6_v hx wf_X6_7 dX6_append_59 ?_
    refine z_bipush hx (n := 7) dX6_append_62 rfl ?_
    refine z_iald hx (n := 320) (z_lt1 (z_ok_sd hx) (by decide)) (z_kc1 (z_ok_sd hx) _) rfl (by decide) dX6_append_64 h (fun h => ?_)
    refine z_iadd hx dX6_append_65 ?_
    refine z_iload_n hx 1 dX6_append_66 rfl ?_
    refine z_iast hx (n := 320) (z_lt1 (z_ok_sd hx) (by decide)) (z_kc1 (z_ok_sd hx)) rfl (by decide) dX6_append_67 h (fun σ1 h => ?_)
    refine z_aload_n hx 0 dX6_append_68 rfl ?_
    refine gf_X6_v hx wf_X6_7 dX6_append_69 ?_
    refine z_bipush hx (n := 7) dX6_append_72 rfl ?_
    refine z_dup2 hx dX6_append_74 rfl rfl ?_
    refine z_iald hx (n := 320) (z_lt1 (z_ok_sd hx) (by decide)) (z_kc1 (z_ok_sd hx) _) rfl (by decide) dX6_append_75 h (fun h => ?_)
    refine z_iconst hx (n := 1) dX6_append_76 ?_
    refine z_iadd hx dX6_append_77 ?_
    refine z_iast hx (n := 320) (z_lt1 (z_ok_sd hx) (by decide)) (z_kc1 (z_ok_sd hx)) rfl (by decide) dX6_append_78 h (fun σ2 h => ?_)
    refine z_iinc hx hn 3 (lv' := [(3, .int (zi (x3 + 1))), (0, .ref (z_ad (z_g C) 0)), (1, .int (zi x1)), (2, .int (zi x2))]) dX6_append_79 rfl (by decide) rfl ?_
    refine z_goto hx (tgt := 47) dX6_append_82 (by decide) ?_
    refine z_sub [1, 2, 3, 0] rfl ?_
    exact hK47 σ2 x1 x2 (x3 + 1) h

theorem w_X6_append_l47 {C : zC} (hx : z_ok C cX6_append RX6 1) (hn : z_nL C = 4) (hR : z_R C = rm_X6_append) {rr : Int × zS} (hq : z_fin C (some .int) (z_QI (z_g C) rr.1 rr.2)) : ∀ (n : Nat) (σ : zS) (x1 : Int) (x2 : Int) (x3 : Int) (_ : f_X6_append_l47 n σ x1 x2 x3 = some rr), z_W C σ 47 [(0, .ref (z_ad (z_g C) 0)), (1, .int (zi x1)), (2, .int (zi x2)), (3, .int (zi x3))] [] := by
  intro n
  induction n with
  | zero => intro σ x1 x2 x3 h; cases h
  | succ n ih =>
    intro σ x1 x2 x3 h
    exact w_X6_append_b47 hx hn hR hq ih σ x1 x2 x3 h
theorem w_X6_append_b21 {C : zC} (hx : z_ok C cX6_append RX6 1) (hn : z_nL C = 4) (hR : z_R C = rm_X6_append) {rr : Int × zS} (hq : z_fin C (some .int) (z_QI (z_g C) rr.1 rr.2)) (σ : zS) (h : f_X6_append_b21 σ = some rr) : z_W C σ 21 [] [] := by
  unfold f_X6_append_b21 at h
  refine z_iconst hx (n := (-1)) dX6_append_21 ?_
  cases h
  exact z_iret hx hq dX6_append_22

theorem w_X6_append {C : zC} (hx : z_ok C cX6_append RX6 1) (hn : z_nL C = 4) (hR : z_R C = rm_X6_append) {rr : Int × zS} (hq : z_fin C (some .int) (z_QI (z_g C) rr.1 rr.2)) (σ : zS) (x1 : Int) (x2 : Int) (h : f_X6_append σ x1 x2 = some rr) : z_W C σ 0 [(0, .ref (z_ad (z_g C) 0)), (1, .int (zi x1)), (2, .int (zi x2))] [] := by
  unfold f_X6_append at h
  refine z_iload_n hx 1 dX6_append_0 rfl ?_
  refine z_iconst hx (n := 0) dX6_append_1 ?_
  refine z_bipush hx (n := 9) dX6_append_2 rfl ?_
  obtain ⟨r2, σ1, h4, h⟩ := z_bind_some h
  refine z_calls hx (As := [.int (zi x1), .int (zi 0), .int (zi 9)]) (met_X6_in (z_l C) (z_g C) (z_ok_sd hx) h4) cv_X6_41 (z_room hR ⟨Nat.le_of_ble_eq_true rfl, Nat.le_of_ble_eq_true rfl⟩) ⟨rfl, rfl⟩ rfl rfl (Nat.le_of_ble_eq_true rfl) dX6_append_4 ?_
  refine z_if_eq hx (tgt := 21) dX6_append_7 (by decide) h (fun h => h) (fun hc h => ?_) (fun hc h => ?_)
  · refine z_sub [] rfl ?_
    exact w_X6_append_b21 hx hn hR hq σ1 h
  · refine z_iload_n hx 2 dX6_append_10 rfl ?_
    refine z_iconst hx (n := 1) dX6_append_11 ?_
    refine z_sipush hx (n := 200) dX6_append_12 rfl ?_
    obtain ⟨r4, σ3, h15, h⟩ := z_bind_some h
    refine z_calls hx (As := [.int (zi x2), .int (zi 1), .int (zi 200)]) (met_X6_in (z_l C) (z_g C) (z_ok_sd hx) h15) cv_X6_41 (z_room hR ⟨Nat.le_of_ble_eq_true rfl, Nat.le_of_ble_eq_true rfl⟩) ⟨rfl, rfl⟩ rfl rfl (Nat.le_of_ble_eq_true rfl) dX6_append_15 ?_
    refine z_if_ne hx (tgt := 23) dX6_append_18 (by decide) h (fun h => h) (fun hc h => ?_) (fun hc h => ?_)
    · refine z_aload_n hx 0 dX6_append_23 rfl ?_
      refine gf_X6_v hx wf_X6_7 dX6_append_24 ?_
      refine z_bipush hx (n := 7) dX6_append_27 rfl ?_
      refine z_iald hx (n := 320) (z_lt1 (z_ok_sd hx) (by decide)) (z_kc1 (z_ok_sd hx) _) rfl (by decide) dX6_append_29 h (fun h => ?_)
      refine z_iload_n hx 2 dX6_append_30 rfl ?_
      refine z_iadd hx dX6_append_31 ?_
      refine z_sipush hx (n := 200) dX6_append_32 rfl ?_
      refine z_icmp_le hx (tgt := 41) dX6_append_35 (by decide) h (fun h => ⟨h, by decide⟩) (fun hc h => ?_) (fun hc h => ?_)
      · refine z_aload_n hx 0 dX6_append_41 rfl ?_
        obtain ⟨⟨⟩, σ5, h42, h⟩ := z_bind_some h
        refine z_callv hx (As := []) (k := 0) (met_X6_act (z_l C) (z_g C) (z_ok_sd hx) h42) (z_lt1 (z_ok_sd hx) (by decide)) (z_kc0 (z_ok_sd hx) _) rfl rfl cv_X6_88 (z_room hR ⟨Nat.le_of_ble_eq_true rfl, Nat.le_of_ble_eq_true rfl⟩) ⟨rfl, rfl⟩ rfl rfl (Nat.le_of_ble_eq_true rfl) dX6_append_42 ?_
        refine z_iconst hx (n := 0) dX6_append_45 ?_
        refine z_istore_n hx hn (lv' := [(3, .int (zi 0)), (0, .ref (z_ad (z_g C) 0)), (1, .int (zi x1)), (2, .int (zi x2))]) dX6_append_46 (by decide) rfl ?_
        refine z_sub [1, 2, 3, 0] rfl ?_
        exact w_X6_append_l47 hx hn hR hq z_fuel σ5 x1 x2 0 h
      · refine z_bipush hx (n := (-3)) dX6_append_38 rfl ?_
        cases h
        exact z_iret hx hq dX6_append_40
    · refine z_sub [] rfl ?_
      exact w_X6_append_b21 hx hn hR hq σ3 h

theorem met_X6_append (l : Launch) (g : zG) (hg : g.1 = 1) {σ : zS} {x1 : Int} {x2 : Int} {rr : Int × zS} (h : f_X6_append σ x1 x2 = some rr) : z_Met l yX6_append cX6_append 4 (some .int) rm_X6_append g [.ref (z_ad (g) 0), .int (zi x1), .int (zi x2)] σ (z_QI g rr.1 rr.2) := by
  refine z_enter (own := RX6) (sd := 1) (lv0 := [(0, .ref (z_ad (g) 0)), (1, .int (zi x1)), (2, .int (zi x2))]) (by decide) rfl (Nat.le_of_ble_eq_true rfl) hg rfl (fun C hx hl hgC hR hn hq => ?_)
  subst hgC
  refine z_sub [0, 1, 2] rfl ?_
  exact w_X6_append hx hn hR hq σ x1 x2 h
theorem dX6_babble_0 : decode cX6_babble 0 = .ok (.iload_n 2, 1) := by decide +kernel
theorem dX6_babble_1 : decode cX6_babble 1 = .ok (.iconst 1, 1) := by decide +kernel
theorem dX6_babble_2 : decode cX6_babble 2 = .ok (.sipush 200, 3) := by decide +kernel
theorem dX6_babble_5 : decode cX6_babble 5 = .ok (.invokestatic 41, 3) := by decide +kernel
theorem dX6_babble_8 : decode cX6_babble 8 = .ok (.ifCond .ne 5, 3) := by decide +kernel
theorem dX6_babble_11 : decode cX6_babble 11 = .ok (.iconst (-1), 1) := by decide +kernel
theorem dX6_babble_12 : decode cX6_babble 12 = .ok (.ireturn, 1) := by decide +kernel
theorem dX6_babble_13 : decode cX6_babble 13 = .ok (.aload_n 0, 1) := by decide +kernel
theorem dX6_babble_14 : decode cX6_babble 14 = .ok (.getfield 7, 3) := by decide +kernel
theorem dX6_babble_17 : decode cX6_babble 17 = .ok (.bipush 7, 2) := by decide +kernel
theorem dX6_babble_19 : decode cX6_babble 19 = .ok (.iaload, 1) := by decide +kernel
theorem dX6_babble_20 : decode cX6_babble 20 = .ok (.iload_n 2, 1) := by decide +kernel
theorem dX6_babble_21 : decode cX6_babble 21 = .ok (.iadd, 1) := by decide +kernel
theorem dX6_babble_22 : decode cX6_babble 22 = .ok (.sipush 200, 3) := by decide +kernel
theorem dX6_babble_25 : decode cX6_babble 25 = .ok (.if_icmp .le 6, 3) := by decide +kernel
theorem dX6_babble_28 : decode cX6_babble 28 = .ok (.bipush (-3), 2) := by decide +kernel
theorem dX6_babble_30 : decode cX6_babble 30 = .ok (.ireturn, 1) := by decide +kernel
theorem dX6_babble_31 : decode cX6_babble 31 = .ok (.aload_n 0, 1) := by decide +kernel
theorem dX6_babble_32 : decode cX6_babble 32 = .ok (.invokevirtual 88, 3) := by decide +kernel
theorem dX6_babble_35 : decode cX6_babble 35 = .ok (.iload_n 1, 1) := by decide +kernel
theorem dX6_babble_36 : decode cX6_babble 36 = .ok (.istore_n 3, 1) := by decide +kernel
theorem dX6_babble_37 : decode cX6_babble 37 = .ok (.iconst 0, 1) := by decide +kernel
theorem dX6_babble_38 : decode cX6_babble 38 = .ok (.istore 4, 2) := by decide +kernel
theorem dX6_babble_40 : decode cX6_babble 40 = .ok (.iload 4, 2) := by decide +kernel
theorem dX6_babble_42 : decode cX6_babble 42 = .ok (.iload_n 2, 1) := by decide +kernel
theorem dX6_babble_43 : decode cX6_babble 43 = .ok (.if_icmp .ge 51, 3) := by decide +kernel
theorem dX6_babble_46 : decode cX6_babble 46 = .ok (.ldc 91, 2) := by decide +kernel
theorem dX6_babble_48 : decode cX6_babble 48 = .ok (.iload_n 3, 1) := by decide +kernel
theorem dX6_babble_49 : decode cX6_babble 49 = .ok (.imul, 1) := by decide +kernel
theorem dX6_babble_50 : decode cX6_babble 50 = .ok (.sipush 12345, 3) := by decide +kernel
theorem dX6_babble_53 : decode cX6_babble 53 = .ok (.iadd, 1) := by decide +kernel
theorem dX6_babble_54 : decode cX6_babble 54 = .ok (.istore_n 3, 1) := by decide +kernel
theorem dX6_babble_55 : decode cX6_babble 55 = .ok (.aload_n 0, 1) := by decide +kernel
theorem dX6_babble_56 : decode cX6_babble 56 = .ok (.getfield 7, 3) := by decide +kernel
theorem dX6_babble_59 : decode cX6_babble 59 = .ok (.bipush 10, 2) := by decide +kernel
theorem dX6_babble_61 : decode cX6_babble 61 = .ok (.aload_n 0, 1) := by decide +kernel
theorem dX6_babble_62 : decode cX6_babble 62 = .ok (.getfield 7, 3) := by decide +kernel
theorem dX6_babble_65 : decode cX6_babble 65 = .ok (.bipush 7, 2) := by decide +kernel
theorem dX6_babble_67 : decode cX6_babble 67 = .ok (.iaload, 1) := by decide +kernel
theorem dX6_babble_68 : decode cX6_babble 68 = .ok (.iadd, 1) := by decide +kernel
theorem dX6_babble_69 : decode cX6_babble 69 = .ok (.iload_n 3, 1) := by decide +kernel
theorem dX6_babble_70 : decode cX6_babble 70 = .ok (.bipush 16, 2) := by decide +kernel
theorem dX6_babble_72 : decode cX6_babble 72 = .ok (.iushr, 1) := by decide +kernel
theorem dX6_babble_73 : decode cX6_babble 73 = .ok (.bipush 10, 2) := by decide +kernel
theorem dX6_babble_75 : decode cX6_babble 75 = .ok (.irem, 1) := by decide +kernel
theorem dX6_babble_76 : decode cX6_babble 76 = .ok (.iastore, 1) := by decide +kernel
theorem dX6_babble_77 : decode cX6_babble 77 = .ok (.aload_n 0, 1) := by decide +kernel
theorem dX6_babble_78 : decode cX6_babble 78 = .ok (.getfield 7, 3) := by decide +kernel
theorem dX6_babble_81 : decode cX6_babble 81 = .ok (.bipush 7, 2) := by decide +kernel
theorem dX6_babble_83 : decode cX6_babble 83 = .ok (.dup2, 1) := by decide +kernel
theorem dX6_babble_84 : decode cX6_babble 84 = .ok (.iaload, 1) := by decide +kernel
theorem dX6_babble_85 : decode cX6_babble 85 = .ok (.iconst 1, 1) := by decide +kernel
theorem dX6_babble_86 : decode cX6_babble 86 = .ok (.iadd, 1) := by decide +kernel
theorem dX6_babble_87 : decode cX6_babble 87 = .ok (.iastore, 1) := by decide +kernel
theorem dX6_babble_88 : decode cX6_babble 88 = .ok (.iinc 4 1, 3) := by decide +kernel
theorem dX6_babble_91 : decode cX6_babble 91 = .ok (.goto (-51), 3) := by decide +kernel
theorem dX6_babble_94 : decode cX6_babble 94 = .ok (.aload_n 0, 1) := by decide +kernel
theorem dX6_babble_95 : decode cX6_babble 95 = .ok (.getfield 7, 3) := by decide +kernel
theorem dX6_babble_98 : decode cX6_babble 98 = .ok (.bipush 7, 2) := by decide +kernel
theorem dX6_babble_100 : decode cX6_babble 100 = .ok (.iaload, 1) := by decide +kernel
theorem dX6_babble_101 : decode cX6_babble 101 = .ok (.ireturn, 1) := by decide +kernel
abbrev rm_X6_babble : Room := { frames := 1, cells := 0, slots := 0, locals := 22 }
theorem w_X6_babble_b40 {C : zC} (hx : z_ok C cX6_babble RX6 1) (hn : z_nL C = 5) (hR : z_R C = rm_X6_babble) {rr : Int × zS} (hq : z_fin C (some .int) (z_QI (z_g C) rr.1 rr.2)) {K40 : zS → Int → Int → Int → Option (Int × zS)} (hK40 : ∀ (σ : zS) (x2 : Int) (x3 : Int) (x4 : Int) , K40 σ x2 x3 x4 = some rr → z_W C σ 40 [(0, .ref (z_ad (z_g C) 0)), (2, .int (zi x2)), (3, .int (zi x3)), (4, .int (zi x4))] []) (σ : zS) (x2 : Int) (x3 : Int) (x4 : Int) (h : f_X6_babble_b40 K40 σ x2 x3 x4 = some rr) : z_W C σ 40 [(0, .ref (z_ad (z_g C) 0)), (2, .int (zi x2)), (3, .int (zi x3)), (4, .int (zi x4))] [] := by
  unfold f_X6_babble_b40 at h
  refine z_iload hx 3 dX6_babble_40 rfl ?_
  refine z_iload_n hx 1 dX6_babble_42 rfl ?_
  refine z_icmp_ge hx (tgt := 94) dX6_babble_43 (by decide) h (fun h => h) (fun hc h => ?_) (fun hc h => ?_)
  · refine z_aload_n hx 0 dX6_babble_94 rfl ?_
    refine gf_X6_v hx wf_X6_7 dX6_babble_95 ?_
    refine z_bipush hx (n := 7) dX6_babble_98 rfl ?_
    refine z_iald hx (n := 320) (z_lt1 (z_ok_sd hx) (by decide)) (z_kc1 (z_ok_sd hx) _) rfl (by decide) dX6_babble_100 h (fun h => ?_)
    cases h
    exact z_iret hx hq dX6_babble_101
  · refine z_ldc hx (n := 1103515245) wk_X6_91 dX6_babble_46 ?_
    refine z_iload_n hx 2 dX6_babble_48 rfl ?_
    refine z_imul hx dX6_babble_49 ?_
    refine z_sipush hx (n := 12345) dX6_babble_50 rfl ?_
    refine z_iadd hx dX6_babble_53 ?_
    refine z_istore_n hx hn (lv' := [(3, .int (zi ((1103515245 * x3) + 12345))), (0, .ref (z_ad (z_g C) 0)), (2, .int (zi x2)), (4, .int (zi x4))]) dX6_babble_54 (by decide) rfl ?_
    refine z_aload_n hx 1 dX6_babble_55 rfl ?_
    refine gf_X6_v hx wf_X6_7 dX6_babble_56 ?_
    refine z_bipush hx (n := 10) dX6_babble_59 rfl ?_
    refine z_aload_n hx 1 dX6_babble_61 rfl ?_
    refine gf_X6_v hx wf_X6_7 dX6_babble_62 ?_
    refine z_bipush hx (n := 7) dX6_babble_65 rfl ?_
    refine z_iald hx (n := 320) (z_lt1 (z_ok_sd hx) (by decide)) (z_kc1 (z_ok_sd hx) _) rfl (by decide) dX6_babble_67 h (fun h => ?_)
    refine z_iadd hx dX6_babble_68 ?_
    refine z_iload_n hx 0 dX6_babble_69 rfl ?_
    refine z_bipush hx (n := 16) dX6_babble_70 rfl ?_
    refine z_iushr16 hx dX6_babble_72 ?_
    refine z_bipush hx (n := 10) dX6_babble_73 rfl ?_
    refine z_irem hx dX6_babble_75 h (fun h => ?_)
    refine z_iast hx (n := 320) (z_lt1 (z_ok_sd hx) (by decide)) (z_kc1 (z_ok_sd hx)) rfl (by decide) dX6_babble_76 h (fun σ1 h => ?_)
    refine z_aload_n hx 1 dX6_babble_77 rfl ?_
    refine gf_X6_v hx wf_X6_7 dX6_babble_78 ?_
    refine z_bipush hx (n := 7) dX6_babble_81 rfl ?_
    refine z_dup2 hx dX6_babble_83 rfl rfl ?_
    refine z_iald hx (n := 320) (z_lt1 (z_ok_sd hx) (by decide)) (z_kc1 (z_ok_sd hx) _) rfl (by decide) dX6_babble_84 h (fun h => ?_)
    refine z_iconst hx (n := 1) dX6_babble_85 ?_
    refine z_iadd hx dX6_babble_86 ?_
    refine z_iast hx (n := 320) (z_lt1 (z_ok_sd hx) (by decide)) (z_kc1 (z_ok_sd hx)) rfl (by decide) dX6_babble_87 h (fun σ2 h => ?_)
    refine z_iinc hx hn 3 (lv' := [(4, .int (zi (x4 + 1))), (3, .int (zi ((1103515245 * x3) + 12345))), (0, .ref (z_ad (z_g C) 0)), (2, .int (zi x2))]) dX6_babble_88 rfl (by decide) rfl ?_
    refine z_goto hx (tgt := 40) dX6_babble_91 (by decide) ?_
    refine z_sub [2, 3, 1, 0] rfl ?_
    exact hK40 σ2 x2 ((1103515245 * x3) + 12345) (x4 + 1) h

theorem w_X6_babble_l40 {C : zC} (hx : z_ok C cX6_babble RX6 1) (hn : z_nL C = 5) (hR : z_R C = rm_X6_babble) {rr : Int × zS} (hq : z_fin C (some .int) (z_QI (z_g C) rr.1 rr.2)) : ∀ (n : Nat) (σ : zS) (x2 : Int) (x3 : Int) (x4 : Int) (_ : f_X6_babble_l40 n σ x2 x3 x4 = some rr), z_W C σ 40 [(0, .ref (z_ad (z_g C) 0)), (2, .int (zi x2)), (3, .int (zi x3)), (4, .int (zi x4))] [] := by
  intro n
  induction n with
  | zero => intro σ x2 x3 x4 h; cases h
  | succ n ih =>
    intro σ x2 x3 x4 h
    exact w_X6_babble_b40 hx hn hR hq ih σ x2 x3 x4 h
theorem w_X6_babble {C : zC} (hx : z_ok C cX6_babble RX6 1) (hn : z_nL C = 5) (hR : z_R C = rm_X6_babble) {rr : Int × zS} (hq : z_fin C (some .int) (z_QI (z_g C) rr.1 rr.2)) (σ : zS) (x1 : Int) (x2 : Int) (h : f_X6_babble σ x1 x2 = some rr) : z_W C σ 0 [(0, .ref (z_ad (z_g C) 0)), (1, .int (zi x1)), (2, .int (zi x2))] [] := by
  unfold f_X6_babble at h
  refine z_iload_n hx 2 dX6_babble_0 rfl ?_
  refine z_iconst hx (n := 1) dX6_babble_1 ?_
  refine z_sipush hx (n := 200) dX6_babble_2 rfl ?_
  obtain ⟨r2, σ1, h5, h⟩ := z_bind_some h
  refine z_calls hx (As := [.int (zi x2), .int (zi 1), .int (zi 200)]) (met_X6_in (z_l C) (z_g C) (z_ok_sd hx) h5) cv_X6_41 (z_room hR ⟨Nat.le_of_ble_eq_true rfl, Nat.le_of_ble_eq_true rfl⟩) ⟨rfl, rfl⟩ rfl rfl (Nat.le_of_ble_eq_true rfl) dX6_babble_5 ?_
  refine z_if_ne hx (tgt := 13) dX6_babble_8 (by decide) h (fun h => h) (fun hc h => ?_) (fun hc h => ?_)
  · refine z_aload_n hx 0 dX6_babble_13 rfl ?_
    refine gf_X6_v hx wf_X6_7 dX6_babble_14 ?_
    refine z_bipush hx (n := 7) dX6_babble_17 rfl ?_
    refine z_iald hx (n := 320) (z_lt1 (z_ok_sd hx) (by decide)) (z_kc1 (z_ok_sd hx) _) rfl (by decide) dX6_babble_19 h (fun h => ?_)
    refine z_iload_n hx 2 dX6_babble_20 rfl ?_
    refine z_iadd hx dX6_babble_21 ?_
    refine z_sipush hx (n := 200) dX6_babble_22 rfl ?_
    refine z_icmp_le hx (tgt := 31) dX6_babble_25 (by decide) h (fun h => ⟨h, by decide⟩) (fun hc h => ?_) (fun hc h => ?_)
    · refine z_aload_n hx 0 dX6_babble_31 rfl ?_
      obtain ⟨⟨⟩, σ3, h32, h⟩ := z_bind_some h
      refine z_callv hx (As := []) (k := 0) (met_X6_act (z_l C) (z_g C) (z_ok_sd hx) h32) (z_lt1 (z_ok_sd hx) (by decide)) (z_kc0 (z_ok_sd hx) _) rfl rfl cv_X6_88 (z_room hR ⟨Nat.le_of_ble_eq_true rfl, Nat.le_of_ble_eq_true rfl⟩) ⟨rfl, rfl⟩ rfl rfl (Nat.le_of_ble_eq_true rfl) dX6_babble_32 ?_
      refine z_iload_n hx 1 dX6_babble_35 rfl ?_
      refine z_istore_n hx hn (lv' := [(3, .int (zi x1)), (0, .ref (z_ad (z_g C) 0)), (1, .int (zi x1)), (2, .int (zi x2))]) dX6_babble_36 (by decide) rfl ?_
      refine z_iconst hx (n := 0) dX6_babble_37 ?_
      refine z_istore hx hn (lv' := [(4, .int (zi 0)), (3, .int (zi x1)), (0, .ref (z_ad (z_g C) 0)), (1, .int (zi x1)), (2, .int (zi x2))]) dX6_babble_38 (by decide) rfl ?_
      refine z_sub [2, 4, 1, 0] rfl ?_
      exact w_X6_babble_l40 hx hn hR hq z_fuel σ3 x2 x1 0 h
    · refine z_bipush hx (n := (-3)) dX6_babble_28 rfl ?_
      cases h
      exact z_iret hx hq dX6_babble_30
  · refine z_iconst hx (n := (-1)) dX6_babble_11 ?_
    cases h
    exact z_iret hx hq dX6_babble_12

theorem met_X6_babble (l : Launch) (g : zG) (hg : g.1 = 1) {σ : zS} {x1 : Int} {x2 : Int} {rr : Int × zS} (h : f_X6_babble σ x1 x2 = some rr) : z_Met l yX6_babble cX6_babble 5 (some .int) rm_X6_babble g [.ref (z_ad (g) 0), .int (zi x1), .int (zi x2)] σ (z_QI g rr.1 rr.2) := by
  refine z_enter (own := RX6) (sd := 1) (lv0 := [(0, .ref (z_ad (g) 0)), (1, .int (zi x1)), (2, .int (zi x2))]) (by decide) rfl (Nat.le_of_ble_eq_true rfl) hg rfl (fun C hx hl hgC hR hn hq => ?_)
  subst hgC
  refine z_sub [0, 1, 2] rfl ?_
  exact w_X6_babble hx hn hR hq σ x1 x2 h
theorem dX6_mark_0 : decode cX6_mark 0 = .ok (.iload_n 1, 1) := by decide +kernel
theorem dX6_mark_1 : decode cX6_mark 1 = .ok (.iconst 0, 1) := by decide +kernel
theorem dX6_mark_2 : decode cX6_mark 2 = .ok (.iconst 3, 1) := by decide +kernel
theorem dX6_mark_3 : decode cX6_mark 3 = .ok (.invokestatic 41, 3) := by decide +kernel
theorem dX6_mark_6 : decode cX6_mark 6 = .ok (.ifCond .eq 34, 3) := by decide +kernel
theorem dX6_mark_9 : decode cX6_mark 9 = .ok (.iload_n 2, 1) := by decide +kernel
theorem dX6_mark_10 : decode cX6_mark 10 = .ok (.ifCond .lt 30, 3) := by decide +kernel
theorem dX6_mark_13 : decode cX6_mark 13 = .ok (.iload_n 3, 1) := by decide +kernel
theorem dX6_mark_14 : decode cX6_mark 14 = .ok (.aload_n 0, 1) := by decide +kernel
theorem dX6_mark_15 : decode cX6_mark 15 = .ok (.getfield 7, 3) := by decide +kernel
theorem dX6_mark_18 : decode cX6_mark 18 = .ok (.bipush 7, 2) := by decide +kernel
theorem dX6_mark_20 : decode cX6_mark 20 = .ok (.iaload, 1) := by decide +kernel
theorem dX6_mark_21 : decode cX6_mark 21 = .ok (.if_icmp .gt 19, 3) := by decide +kernel
theorem dX6_mark_24 : decode cX6_mark 24 = .ok (.iload_n 3, 1) := by decide +kernel
theorem dX6_mark_25 : decode cX6_mark 25 = .ok (.iload_n 2, 1) := by decide +kernel
theorem dX6_mark_26 : decode cX6_mark 26 = .ok (.if_icmp .le 14, 3) := by decide +kernel
theorem dX6_mark_29 : decode cX6_mark 29 = .ok (.iload 4, 2) := by decide +kernel
theorem dX6_mark_31 : decode cX6_mark 31 = .ok (.iconst 0, 1) := by decide +kernel
theorem dX6_mark_32 : decode cX6_mark 32 = .ok (.bipush 100, 2) := by decide +kernel
theorem dX6_mark_34 : decode cX6_mark 34 = .ok (.invokestatic 41, 3) := by decide +kernel
theorem dX6_mark_37 : decode cX6_mark 37 = .ok (.ifCond .ne 5, 3) := by decide +kernel
theorem dX6_mark_40 : decode cX6_mark 40 = .ok (.iconst (-1), 1) := by decide +kernel
theorem dX6_mark_41 : decode cX6_mark 41 = .ok (.ireturn, 1) := by decide +kernel
theorem dX6_mark_42 : decode cX6_mark 42 = .ok (.iconst 0, 1) := by decide +kernel
theorem dX6_mark_43 : decode cX6_mark 43 = .ok (.istore 5, 2) := by decide +kernel
theorem dX6_mark_45 : decode cX6_mark 45 = .ok (.iconst 0, 1) := by decide +kernel
theorem dX6_mark_46 : decode cX6_mark 46 = .ok (.istore 6, 2) := by decide +kernel
theorem dX6_mark_48 : decode cX6_mark 48 = .ok (.iconst 0, 1) := by decide +kernel
theorem dX6_mark_49 : decode cX6_mark 49 = .ok (.istore 7, 2) := by decide +kernel
theorem dX6_mark_51 : decode cX6_mark 51 = .ok (.iload 7, 2) := by decide +kernel
theorem dX6_mark_53 : decode cX6_mark 53 = .ok (.aload_n 0, 1) := by decide +kernel
theorem dX6_mark_54 : decode cX6_mark 54 = .ok (.getfield 7, 3) := by decide +kernel
theorem dX6_mark_57 : decode cX6_mark 57 = .ok (.bipush 8, 2) := by decide +kernel
theorem dX6_mark_59 : decode cX6_mark 59 = .ok (.iaload, 1) := by decide +kernel
theorem dX6_mark_60 : decode cX6_mark 60 = .ok (.if_icmp .ge 64, 3) := by decide +kernel
theorem dX6_mark_63 : decode cX6_mark 63 = .ok (.iload 6, 2) := by decide +kernel
theorem dX6_mark_65 : decode cX6_mark 65 = .ok (.ifCond .ne 25, 3) := by decide +kernel
theorem dX6_mark_68 : decode cX6_mark 68 = .ok (.iload_n 2, 1) := by decide +kernel
theorem dX6_mark_69 : decode cX6_mark 69 = .ok (.aload_n 0, 1) := by decide +kernel
theorem dX6_mark_70 : decode cX6_mark 70 = .ok (.iload 7, 2) := by decide +kernel
theorem dX6_mark_72 : decode cX6_mark 72 = .ok (.iconst 2, 1) := by decide +kernel
theorem dX6_mark_73 : decode cX6_mark 73 = .ok (.invokevirtual 92, 3) := by decide +kernel
theorem dX6_mark_76 : decode cX6_mark 76 = .ok (.if_icmp .ge 18, 3) := by decide +kernel
theorem dX6_mark_79 : decode cX6_mark 79 = .ok (.aload_n 0, 1) := by decide +kernel
theorem dX6_mark_80 : decode cX6_mark 80 = .ok (.iload 7, 2) := by decide +kernel
theorem dX6_mark_82 : decode cX6_mark 82 = .ok (.iconst 1, 1) := by decide +kernel
theorem dX6_mark_83 : decode cX6_mark 83 = .ok (.invokevirtual 92, 3) := by decide +kernel
theorem dX6_mark_86 : decode cX6_mark 86 = .ok (.iload_n 3, 1) := by decide +kernel
theorem dX6_mark_87 : decode cX6_mark 87 = .ok (.if_icmp .ge 7, 3) := by decide +kernel
theorem dX6_mark_90 : decode cX6_mark 90 = .ok (.iconst 1, 1) := by decide +kernel
theorem dX6_mark_91 : decode cX6_mark 91 = .ok (.goto 4, 3) := by decide +kernel
theorem dX6_mark_94 : decode cX6_mark 94 = .ok (.iconst 0, 1) := by decide +kernel
theorem dX6_mark_95 : decode cX6_mark 95 = .ok (.istore 6, 2) := by decide +kernel
theorem dX6_mark_97 : decode cX6_mark 97 = .ok (.iload 5, 2) := by decide +kernel
theorem dX6_mark_99 : decode cX6_mark 99 = .ok (.aload_n 0, 1) := by decide +kernel
theorem dX6_mark_100 : decode cX6_mark 100 = .ok (.iload 7, 2) := by decide +kernel
theorem dX6_mark_102 : decode cX6_mark 102 = .ok (.iconst 1, 1) := by decide +kernel
theorem dX6_mark_103 : decode cX6_mark 103 = .ok (.invokevirtual 92, 3) := by decide +kernel
theorem dX6_mark_106 : decode cX6_mark 106 = .ok (.iload_n 2, 1) := by decide +kernel
theorem dX6_mark_107 : decode cX6_mark 107 = .ok (.if_icmp .ge 7, 3) := by decide +kernel
theorem dX6_mark_110 : decode cX6_mark 110 = .ok (.iconst 1, 1) := by decide +kernel
theorem dX6_mark_111 : decode cX6_mark 111 = .ok (.goto 4, 3) := by decide +kernel
theorem dX6_mark_114 : decode cX6_mark 114 = .ok (.iconst 0, 1) := by decide +kernel
theorem dX6_mark_115 : decode cX6_mark 115 = .ok (.iadd, 1) := by decide +kernel
theorem dX6_mark_116 : decode cX6_mark 116 = .ok (.istore 5, 2) := by decide +kernel
theorem dX6_mark_118 : decode cX6_mark 118 = .ok (.iinc 7 1, 3) := by decide +kernel
theorem dX6_mark_121 : decode cX6_mark 121 = .ok (.goto (-70), 3) := by decide +kernel
theorem dX6_mark_124 : decode cX6_mark 124 = .ok (.iload 6, 2) := by decide +kernel
theorem dX6_mark_126 : decode cX6_mark 126 = .ok (.ifCond .eq 6, 3) := by decide +kernel
theorem dX6_mark_129 : decode cX6_mark 129 = .ok (.bipush (-2), 2) := by decide +kernel
theorem dX6_mark_131 : decode cX6_mark 131 = .ok (.ireturn, 1) := by decide +kernel
theorem dX6_mark_132 : decode cX6_mark 132 = .ok (.aload_n 0, 1) := by decide +kernel
theorem dX6_mark_133 : decode cX6_mark 133 = .ok (.getfield 7, 3) := by decide +kernel
theorem dX6_mark_136 : decode cX6_mark 136 = .ok (.bipush 8, 2) := by decide +kernel
theorem dX6_mark_138 : decode cX6_mark 138 = .ok (.iaload, 1) := by decide +kernel
theorem dX6_mark_139 : decode cX6_mark 139 = .ok (.bipush 20, 2) := by decide +kernel
theorem dX6_mark_141 : decode cX6_mark 141 = .ok (.if_icmp .ne 6, 3) := by decide +kernel
theorem dX6_mark_144 : decode cX6_mark 144 = .ok (.bipush (-3), 2) := by decide +kernel
theorem dX6_mark_146 : decode cX6_mark 146 = .ok (.ireturn, 1) := by decide +kernel
theorem dX6_mark_147 : decode cX6_mark 147 = .ok (.aload_n 0, 1) := by decide +kernel
theorem dX6_mark_148 : decode cX6_mark 148 = .ok (.invokevirtual 88, 3) := by decide +kernel
theorem dX6_mark_151 : decode cX6_mark 151 = .ok (.sipush 210, 3) := by decide +kernel
theorem dX6_mark_154 : decode cX6_mark 154 = .ok (.iconst 5, 1) := by decide +kernel
theorem dX6_mark_155 : decode cX6_mark 155 = .ok (.aload_n 0, 1) := by decide +kernel
theorem dX6_mark_156 : decode cX6_mark 156 = .ok (.getfield 7, 3) := by decide +kernel
theorem dX6_mark_159 : decode cX6_mark 159 = .ok (.bipush 8, 2) := by decide +kernel
theorem dX6_mark_161 : decode cX6_mark 161 = .ok (.iaload, 1) := by decide +kernel
theorem dX6_mark_162 : decode cX6_mark 162 = .ok (.imul, 1) := by decide +kernel
theorem dX6_mark_163 : decode cX6_mark 163 = .ok (.iadd, 1) := by decide +kernel
theorem dX6_mark_164 : decode cX6_mark 164 = .ok (.iconst 1, 1) := by decide +kernel
theorem dX6_mark_165 : decode cX6_mark 165 = .ok (.isub, 1) := by decide +kernel
theorem dX6_mark_166 : decode cX6_mark 166 = .ok (.istore 7, 2) := by decide +kernel
theorem dX6_mark_168 : decode cX6_mark 168 = .ok (.iload 7, 2) := by decide +kernel
theorem dX6_mark_170 : decode cX6_mark 170 = .ok (.sipush 210, 3) := by decide +kernel
theorem dX6_mark_173 : decode cX6_mark 173 = .ok (.iconst 5, 1) := by decide +kernel
theorem dX6_mark_174 : decode cX6_mark 174 = .ok (.iload 5, 2) := by decide +kernel
theorem dX6_mark_176 : decode cX6_mark 176 = .ok (.imul, 1) := by decide +kernel
theorem dX6_mark_177 : decode cX6_mark 177 = .ok (.iadd, 1) := by decide +kernel
theorem dX6_mark_178 : decode cX6_mark 178 = .ok (.if_icmp .lt 25, 3) := by decide +kernel
theorem dX6_mark_181 : decode cX6_mark 181 = .ok (.aload_n 0, 1) := by decide +kernel
theorem dX6_mark_182 : decode cX6_mark 182 = .ok (.getfield 7, 3) := by decide +kernel
theorem dX6_mark_185 : decode cX6_mark 185 = .ok (.iload 7, 2) := by decide +kernel
theorem dX6_mark_187 : decode cX6_mark 187 = .ok (.iconst 5, 1) := by decide +kernel
theorem dX6_mark_188 : decode cX6_mark 188 = .ok (.iadd, 1) := by decide +kernel
theorem dX6_mark_189 : decode cX6_mark 189 = .ok (.aload_n 0, 1) := by decide +kernel
theorem dX6_mark_190 : decode cX6_mark 190 = .ok (.getfield 7, 3) := by decide +kernel
theorem dX6_mark_193 : decode cX6_mark 193 = .ok (.iload 7, 2) := by decide +kernel
theorem dX6_mark_195 : decode cX6_mark 195 = .ok (.iaload, 1) := by decide +kernel
theorem dX6_mark_196 : decode cX6_mark 196 = .ok (.iastore, 1) := by decide +kernel
theorem dX6_mark_197 : decode cX6_mark 197 = .ok (.iinc 7 (-1), 3) := by decide +kernel
theorem dX6_mark_200 : decode cX6_mark 200 = .ok (.goto (-32), 3) := by decide +kernel
theorem dX6_mark_203 : decode cX6_mark 203 = .ok (.sipush 210, 3) := by decide +kernel
theorem dX6_mark_206 : decode cX6_mark 206 = .ok (.iconst 5, 1) := by decide +kernel
theorem dX6_mark_207 : decode cX6_mark 207 = .ok (.iload 5, 2) := by decide +kernel
theorem dX6_mark_209 : decode cX6_mark 209 = .ok (.imul, 1) := by decide +kernel
theorem dX6_mark_210 : decode cX6_mark 210 = .ok (.iadd, 1) := by decide +kernel
theorem dX6_mark_211 : decode cX6_mark 211 = .ok (.istore 7, 2) := by decide +kernel
theorem dX6_mark_213 : decode cX6_mark 213 = .ok (.aload_n 0, 1) := by decide +kernel
theorem dX6_mark_214 : decode cX6_mark 214 = .ok (.getfield 7, 3) := by decide +kernel
theorem dX6_mark_217 : decode cX6_mark 217 = .ok (.iload 7, 2) := by decide +kernel
theorem dX6_mark_219 : decode cX6_mark 219 = .ok (.iload_n 1, 1) := by decide +kernel
theorem dX6_mark_220 : decode cX6_mark 220 = .ok (.iastore, 1) := by decide +kernel
theorem dX6_mark_221 : decode cX6_mark 221 = .ok (.aload_n 0, 1) := by decide +kernel
theorem dX6_mark_222 : decode cX6_mark 222 = .ok (.getfield 7, 3) := by decide +kernel
theorem dX6_mark_225 : decode cX6_mark 225 = .ok (.iload 7, 2) := by decide +kernel
theorem dX6_mark_227 : decode cX6_mark 227 = .ok (.iconst 1, 1) := by decide +kernel
theorem dX6_mark_228 : decode cX6_mark 228 = .ok (.iadd, 1) := by decide +kernel
theorem dX6_mark_229 : decode cX6_mark 229 = .ok (.iload_n 2, 1) := by decide +kernel
theorem dX6_mark_230 : decode cX6_mark 230 = .ok (.iastore, 1) := by decide +kernel
theorem dX6_mark_231 : decode cX6_mark 231 = .ok (.aload_n 0, 1) := by decide +kernel
theorem dX6_mark_232 : decode cX6_mark 232 = .ok (.getfield 7, 3) := by decide +kernel
theorem dX6_mark_235 : decode cX6_mark 235 = .ok (.iload 7, 2) := by decide +kernel
theorem dX6_mark_237 : decode cX6_mark 237 = .ok (.iconst 2, 1) := by decide +kernel
theorem dX6_mark_238 : decode cX6_mark 238 = .ok (.iadd, 1) := by decide +kernel
theorem dX6_mark_239 : decode cX6_mark 239 = .ok (.iload_n 3, 1) := by decide +kernel
theorem dX6_mark_240 : decode cX6_mark 240 = .ok (.iastore, 1) := by decide +kernel
theorem dX6_mark_241 : decode cX6_mark 241 = .ok (.aload_n 0, 1) := by decide +kernel
theorem dX6_mark_242 : decode cX6_mark 242 = .ok (.getfield 7, 3) := by decide +kernel
theorem dX6_mark_245 : decode cX6_mark 245 = .ok (.iload 7, 2) := by decide +kernel
theorem dX6_mark_247 : decode cX6_mark 247 = .ok (.iconst 3, 1) := by decide +kernel
theorem dX6_mark_248 : decode cX6_mark 248 = .ok (.iadd, 1) := by decide +kernel
theorem dX6_mark_249 : decode cX6_mark 249 = .ok (.iload 4, 2) := by decide +kernel
theorem dX6_mark_251 : decode cX6_mark 251 = .ok (.iastore, 1) := by decide +kernel
theorem dX6_mark_252 : decode cX6_mark 252 = .ok (.aload_n 0, 1) := by decide +kernel
theorem dX6_mark_253 : decode cX6_mark 253 = .ok (.getfield 7, 3) := by decide +kernel
theorem dX6_mark_256 : decode cX6_mark 256 = .ok (.iload 7, 2) := by decide +kernel
theorem dX6_mark_258 : decode cX6_mark 258 = .ok (.iconst 4, 1) := by decide +kernel
theorem dX6_mark_259 : decode cX6_mark 259 = .ok (.iadd, 1) := by decide +kernel
theorem dX6_mark_260 : decode cX6_mark 260 = .ok (.iconst 0, 1) := by decide +kernel
theorem dX6_mark_261 : decode cX6_mark 261 = .ok (.iastore, 1) := by decide +kernel
theorem dX6_mark_262 : decode cX6_mark 262 = .ok (.aload_n 0, 1) := by decide +kernel
theorem dX6_mark_263 : decode cX6_mark 263 = .ok (.getfield 7, 3) := by decide +kernel
theorem dX6_mark_266 : decode cX6_mark 266 = .ok (.bipush 8, 2) := by decide +kernel
theorem dX6_mark_268 : decode cX6_mark 268 = .ok (.dup2, 1) := by decide +kernel
theorem dX6_mark_269 : decode cX6_mark 269 = .ok (.iaload, 1) := by decide +kernel
theorem dX6_mark_270 : decode cX6_mark 270 = .ok (.iconst 1, 1) := by decide +kernel
theorem dX6_mark_271 : decode cX6_mark 271 = .ok (.iadd, 1) := by decide +kernel
theorem dX6_mark_272 : decode cX6_mark 272 = .ok (.iastore, 1) := by decide +kernel
theorem dX6_mark_273 : decode cX6_mark 273 = .ok (.iload 5, 2) := by decide +kernel
theorem dX6_mark_275 : decode cX6_mark 275 = .ok (.ireturn, 1) := by decide +kernel
abbrev rm_X6_mark : Room := { frames := 1, cells := 0, slots := 0, locals := 22 }
theorem w_X6_mark_b168 {C : zC} (hx : z_ok C cX6_mark RX6 1) (hn : z_nL C = 8) (hR : z_R C = rm_X6_mark) {rr : Int × zS} (hq : z_fin C (some .int) (z_QI (z_g C) rr.1 rr.2)) {K168 : zS → Int → Int → Int → Int → Int → Int → Option (Int × zS)} (hK168 : ∀ (σ : zS) (x1 : Int) (x2 : Int) (x3 : Int) (x4 : Int) (x5 : Int) (x7 : Int) , K168 σ x1 x2 x3 x4 x5 x7 = some rr → z_W C σ 168 [(0, .ref (z_ad (z_g C) 0)), (1, .int (zi x1)), (2, .int (zi x2)), (3, .int (zi x3)), (4, .int (zi x4)), (5, .int (zi x5)), (7, .int (zi x7))] []) (σ : zS) (x1 : Int) (x2 : Int) (x3 : Int) (x4 : Int) (x5 : Int) (x7 : Int) (h : f_X6_mark_b168 K168 σ x1 x2 x3 x4 x5 x7 = some rr) : z_W C σ 168 [(0, .ref (z_ad (z_g C) 0)), (1, .int (zi x1)), (2, .int (zi x2)), (3, .int (zi x3)), (4, .int (zi x4)), (5, .int (zi x5)), (7, .int (zi x7))] [] := by
  unfold f_X6_mark_b168 at h
  refine z_iload hx 6 dX6_mark_168 rfl ?_
  refine z_sipush hx (n := 210) dX6_mark_170 rfl ?_
  refine z_iconst hx (n := 5) dX6_mark_173 ?_
  refine z_iload hx 5 dX6_mark_174 rfl ?_
  refine z_imul hx dX6_mark_176 ?_
  refine z_iadd hx dX6_mark_177 ?_
  refine z_icmp_lt hx (tgt := 203) dX6_mark_178 (by decide) h (fun h => h) (fun hc h => ?_) (fun hc h => ?_)
  · refine z_sipush hx (n := 210) dX6_mark_203 rfl ?_
    refine z_iconst hx (n := 5) dX6_mark_206 ?_
    refine z_iload hx 5 dX6_mark_207 rfl ?_
    refine z_imul hx dX6_mark_209 ?_
    refine z_iadd hx dX6_mark_210 ?_
    refine z_istore hx hn (lv' := [(7, .int (zi (210 + (5 * x5)))), (0, .ref (z_ad (z_g C) 0)), (1, .int (zi x1)), (2, .int (zi x2)), (3, .int (zi x3)), (4, .int (zi x4)), (5, .int (zi x5))]) dX6_mark_211 (by decide) rfl ?_
    refine z_aload_n hx 1 dX6_mark_213 rfl ?_
    refine gf_X6_v hx wf_X6_7 dX6_mark_214 ?_
    refine z_iload hx 0 dX6_mark_217 rfl ?_
    refine z_iload_n hx 2 dX6_mark_219 rfl ?_
    refine z_iast hx (n := 320) (z_lt1 (z_ok_sd hx) (by decide)) (z_kc1 (z_ok_sd hx)) rfl (by decide) dX6_mark_220 h (fun σ1 h => ?_)
    refine z_aload_n hx 1 dX6_mark_221 rfl ?_
    refine gf_X6_v hx wf_X6_7 dX6_mark_222 ?_
    refine z_iload hx 0 dX6_mark_225 rfl ?_
    refine z_iconst hx (n := 1) dX6_mark_227 ?_
    refine z_iadd hx dX6_mark_228 ?_
    refine z_iload_n hx 3 dX6_mark_229 rfl ?_
    refine z_iast hx (n := 320) (z_lt1 (z_ok_sd hx) (by decide)) (z_kc1 (z_ok_sd hx)) rfl (by decide) dX6_mark_230 h (fun σ2 h => ?_)
    refine z_aload_n hx 1 dX6_mark_231 rfl ?_
    refine gf_X6_v hx wf_X6_7 dX6_mark_232 ?_
    refine z_iload hx 0 dX6_mark_235 rfl ?_
    refine z_iconst hx (n := 2) dX6_mark_237 ?_
    refine z_iadd hx dX6_mark_238 ?_
    refine z_iload_n hx 4 dX6_mark_239 rfl ?_
    refine z_iast hx (n := 320) (z_lt1 (z_ok_sd hx) (by decide)) (z_kc1 (z_ok_sd hx)) rfl (by decide) dX6_mark_240 h (fun σ3 h => ?_)
    refine z_aload_n hx 1 dX6_mark_241 rfl ?_
    refine gf_X6_v hx wf_X6_7 dX6_mark_242 ?_
    refine z_iload hx 0 dX6_mark_245 rfl ?_
    refine z_iconst hx (n := 3) dX6_mark_247 ?_
    refine z_iadd hx dX6_mark_248 ?_
    refine z_iload hx 5 dX6_mark_249 rfl ?_
    refine z_iast hx (n := 320) (z_lt1 (z_ok_sd hx) (by decide)) (z_kc1 (z_ok_sd hx)) rfl (by decide) dX6_mark_251 h (fun σ4 h => ?_)
    refine z_aload_n hx 1 dX6_mark_252 rfl ?_
    refine gf_X6_v hx wf_X6_7 dX6_mark_253 ?_
    refine z_iload hx 0 dX6_mark_256 rfl ?_
    refine z_iconst hx (n := 4) dX6_mark_258 ?_
    refine z_iadd hx dX6_mark_259 ?_
    refine z_iconst hx (n := 0) dX6_mark_260 ?_
    refine z_iast hx (n := 320) (z_lt1 (z_ok_sd hx) (by decide)) (z_kc1 (z_ok_sd hx)) rfl (by decide) dX6_mark_261 h (fun σ5 h => ?_)
    refine z_aload_n hx 1 dX6_mark_262 rfl ?_
    refine gf_X6_v hx wf_X6_7 dX6_mark_263 ?_
    refine z_bipush hx (n := 8) dX6_mark_266 rfl ?_
    refine z_dup2 hx dX6_mark_268 rfl rfl ?_
    refine z_iald hx (n := 320) (z_lt1 (z_ok_sd hx) (by decide)) (z_kc1 (z_ok_sd hx) _) rfl (by decide) dX6_mark_269 h (fun h => ?_)
    refine z_iconst hx (n := 1) dX6_mark_270 ?_
    refine z_iadd hx dX6_mark_271 ?_
    refine z_iast hx (n := 320) (z_lt1 (z_ok_sd hx) (by decide)) (z_kc1 (z_ok_sd hx)) rfl (by decide) dX6_mark_272 h (fun σ6 h => ?_)
    refine z_iload hx 6 dX6_mark_273 rfl ?_
    cases h
    exact z_iret hx hq dX6_mark_275
  · refine z_aload_n hx 0 dX6_mark_181 rfl ?_
    refine gf_X6_v hx wf_X6_7 dX6_mark_182 ?_
    refine z_iload hx 6 dX6_mark_185 rfl ?_
    refine z_iconst hx (n := 5) dX6_mark_187 ?_
    refine z_iadd hx dX6_mark_188 ?_
    refine z_aload_n hx 0 dX6_mark_189 rfl ?_
    refine gf_X6_v hx wf_X6_7 dX6_mark_190 ?_
    refine z_iload hx 6 dX6_mark_193 rfl ?_
    refine z_iald hx (n := 320) (z_lt1 (z_ok_sd hx) (by decide)) (z_kc1 (z_ok_sd hx) _) rfl (by decide) dX6_mark_195 h (fun h => ?_)
    refine z_iast hx (n := 320) (z_lt1 (z_ok_sd hx) (by decide)) (z_kc1 (z_ok_sd hx)) rfl (by decide) dX6_mark_196 h (fun σ7 h => ?_)
    refine z_iinc hx hn 6 (lv' := [(7, .int (zi (x7 + (-1)))), (0, .ref (z_ad (z_g C) 0)), (1, .int (zi x1)), (2, .int (zi x2)), (3, .int (zi x3)), (4, .int (zi x4)), (5, .int (zi x5))]) dX6_mark_197 rfl (by decide) rfl ?_
    refine z_goto hx (tgt := 168) dX6_mark_200 (by decide) ?_
    refine z_sub [1, 2, 3, 4, 5, 6, 0] rfl ?_
    exact hK168 σ7 x1 x2 x3 x4 x5 (x7 + (-1)) h

theorem w_X6_mark_l168 {C : zC} (hx : z_ok C cX6_mark RX6 1) (hn : z_nL C = 8) (hR : z_R C = rm_X6_mark) {rr : Int × zS} (hq : z_fin C (some .int) (z_QI (z_g C) rr.1 rr.2)) : ∀ (n : Nat) (σ : zS) (x1 : Int) (x2 : Int) (x3 : Int) (x4 : Int) (x5 : Int) (x7 : Int) (_ : f_X6_mark_l168 n σ x1 x2 x3 x4 x5 x7 = some rr), z_W C σ 168 [(0, .ref (z_ad (z_g C) 0)), (1, .int (zi x1)), (2, .int (zi x2)), (3, .int (zi x3)), (4, .int (zi x4)), (5, .int (zi x5)), (7, .int (zi x7))] [] := by
  intro n
  induction n with
  | zero => intro σ x1 x2 x3 x4 x5 x7 h; cases h
  | succ n ih =>
    intro σ x1 x2 x3 x4 x5 x7 h
    exact w_X6_mark_b168 hx hn hR hq ih σ x1 x2 x3 x4 x5 x7 h
theorem w_X6_mark_b115 {C : zC} (hx : z_ok C cX6_mark RX6 1) (hn : z_nL C = 8) (hR : z_R C = rm_X6_mark) {rr : Int × zS} (hq : z_fin C (some .int) (z_QI (z_g C) rr.1 rr.2)) {K51 : zS → Int → Int → Int → Int → Int → Int → Int → Option (Int × zS)} (hK51 : ∀ (σ : zS) (x1 : Int) (x2 : Int) (x3 : Int) (x4 : Int) (x5 : Int) (x6 : Int) (x7 : Int) , K51 σ x1 x2 x3 x4 x5 x6 x7 = some rr → z_W C σ 51 [(0, .ref (z_ad (z_g C) 0)), (1, .int (zi x1)), (2, .int (zi x2)), (3, .int (zi x3)), (4, .int (zi x4)), (5, .int (zi x5)), (6, .int (zi x6)), (7, .int (zi x7))] []) (σ : zS) (x1 : Int) (x2 : Int) (x3 : Int) (x4 : Int) (x6 : Int) (x7 : Int) (s0 : Int) (s1 : Int) (h : f_X6_mark_b115 K51 σ x1 x2 x3 x4 x6 x7 s0 s1 = some rr) : z_W C σ 115 [(0, .ref (z_ad (z_g C) 0)), (1, .int (zi x1)), (2, .int (zi x2)), (3, .int (zi x3)), (4, .int (zi x4)), (6, .int (zi x6)), (7, .int (zi x7))] [.int (zi s1), .int (zi s0)] := by
  unfold f_X6_mark_b115 at h
  refine z_iadd hx dX6_mark_115 ?_
  refine z_istore hx hn (lv' := [(5, .int (zi (s0 + s1))), (0, .ref (z_ad (z_g C) 0)), (1, .int (zi x1)), (2, .int (zi x2)), (3, .int (zi x3)), (4, .int (zi x4)), (6, .int (zi x6)), (7, .int (zi x7))]) dX6_mark_116 (by decide) rfl ?_
  refine z_iinc hx hn 7 (lv' := [(7, .int (zi (x7 + 1))), (5, .int (zi (s0 + s1))), (0, .ref (z_ad (z_g C) 0)), (1, .int (zi x1)), (2, .int (zi x2)), (3, .int (zi x3)), (4, .int (zi x4)), (6, .int (zi x6))]) dX6_mark_118 rfl (by decide) rfl ?_
  refine z_goto hx (tgt := 51) dX6_mark_121 (by decide) ?_
  refine z_sub [2, 3, 4, 5, 6, 1, 7, 0] rfl ?_
  exact hK51 σ x1 x2 x3 x4 (s0 + s1) x6 (x7 + 1) h

theorem w_X6_mark_b95 {C : zC} (hx : z_ok C cX6_mark RX6 1) (hn : z_nL C = 8) (hR : z_R C = rm_X6_mark) {rr : Int × zS} (hq : z_fin C (some .int) (z_QI (z_g C) rr.1 rr.2)) {K51 : zS → Int → Int → Int → Int → Int → Int → Int → Option (Int × zS)} (hK51 : ∀ (σ : zS) (x1 : Int) (x2 : Int) (x3 : Int) (x4 : Int) (x5 : Int) (x6 : Int) (x7 : Int) , K51 σ x1 x2 x3 x4 x5 x6 x7 = some rr → z_W C σ 51 [(0, .ref (z_ad (z_g C) 0)), (1, .int (zi x1)), (2, .int (zi x2)), (3, .int (zi x3)), (4, .int (zi x4)), (5, .int (zi x5)), (6, .int (zi x6)), (7, .int (zi x7))] []) (σ : zS) (x1 : Int) (x2 : Int) (x3 : Int) (x4 : Int) (x5 : Int) (x7 : Int) (s0 : Int) (h : f_X6_mark_b95 K51 σ x1 x2 x3 x4 x5 x7 s0 = some rr) : z_W C σ 95 [(0, .ref (z_ad (z_g C) 0)), (1, .int (zi x1)), (2, .int (zi x2)), (3, .int (zi x3)), (4, .int (zi x4)), (5, .int (zi x5)), (7, .int (zi x7))] [.int (zi s0)] := by
  unfold f_X6_mark_b95 at h
  refine z_istore hx hn (lv' := [(6, .int (zi s0)), (0, .ref (z_ad (z_g C) 0)), (1, .int (zi x1)), (2, .int (zi x2)), (3, .int (zi x3)), (4, .int (zi x4)), (5, .int (zi x5)), (7, .int (zi x7))]) dX6_mark_95 (by decide) rfl ?_
  refine z_iload hx 6 dX6_mark_97 rfl ?_
  refine z_aload_n hx 1 dX6_mark_99 rfl ?_
  refine z_iload hx 7 dX6_mark_100 rfl ?_
  refine z_iconst hx (n := 1) dX6_mark_102 ?_
  obtain ⟨r2, σ1, h103, h⟩ := z_bind_some h
  refine z_calli hx (As := [.int (zi x7), .int (zi 1)]) (k := 0) (met_X6_of (z_l C) (z_g C) (z_ok_sd hx) h103) (z_lt1 (z_ok_sd hx) (by decide)) (z_kc0 (z_ok_sd hx) _) rfl rfl cv_X6_92 (z_room hR ⟨Nat.le_of_ble_eq_true rfl, Nat.le_of_ble_eq_true rfl⟩) ⟨rfl, rfl⟩ rfl rfl (Nat.le_of_ble_eq_true rfl) dX6_mark_103 ?_
  refine z_iload_n hx 3 dX6_mark_106 rfl ?_
  refine z_icmp_ge hx (tgt := 114) dX6_mark_107 (by decide) h (fun h => h) (fun hc h => ?_) (fun hc h => ?_)
  · refine z_iconst hx (n := 0) dX6_mark_114 ?_
    refine z_sub [1, 2, 3, 4, 5, 0, 7] rfl ?_
    exact w_X6_mark_b115 hx hn hR hq hK51 σ1 x1 x2 x3 x4 s0 x7 x5 0 h
  · refine z_iconst hx (n := 1) dX6_mark_110 ?_
    refine z_goto hx (tgt := 115) dX6_mark_111 (by decide) ?_
    refine z_sub [1, 2, 3, 4, 5, 0, 7] rfl ?_
    exact w_X6_mark_b115 hx hn hR hq hK51 σ1 x1 x2 x3 x4 s0 x7 x5 1 h

theorem w_X6_mark_b94 {C : zC} (hx : z_ok C cX6_mark RX6 1) (hn : z_nL C = 8) (hR : z_R C = rm_X6_mark) {rr : Int × zS} (hq : z_fin C (some .int) (z_QI (z_g C) rr.1 rr.2)) {K51 : zS → Int → Int → Int → Int → Int → Int → Int → Option (Int × zS)} (hK51 : ∀ (σ : zS) (x1 : Int) (x2 : Int) (x3 : Int) (x4 : Int) (x5 : Int) (x6 : Int) (x7 : Int) , K51 σ x1 x2 x3 x4 x5 x6 x7 = some rr → z_W C σ 51 [(0, .ref (z_ad (z_g C) 0)), (1, .int (zi x1)), (2, .int (zi x2)), (3, .int (zi x3)), (4, .int (zi x4)), (5, .int (zi x5)), (6, .int (zi x6)), (7, .int (zi x7))] []) (σ : zS) (x1 : Int) (x2 : Int) (x3 : Int) (x4 : Int) (x5 : Int) (x7 : Int) (h : f_X6_mark_b94 K51 σ x1 x2 x3 x4 x5 x7 = some rr) : z_W C σ 94 [(0, .ref (z_ad (z_g C) 0)), (1, .int (zi x1)), (2, .int (zi x2)), (3, .int (zi x3)), (4, .int (zi x4)), (5, .int (zi x5)), (7, .int (zi x7))] [] := by
  unfold f_X6_mark_b94 at h
  refine z_iconst hx (n := 0) dX6_mark_94 ?_
  refine z_sub [0, 1, 2, 3, 4, 5, 6] rfl ?_
  exact w_X6_mark_b95 hx hn hR hq hK51 σ x1 x2 x3 x4 x5 x7 0 h

theorem w_X6_mark_b90 {C : zC} (hx : z_ok C cX6_mark RX6 1) (hn : z_nL C = 8) (hR : z_R C = rm_X6_mark) {rr : Int × zS} (hq : z_fin C (some .int) (z_QI (z_g C) rr.1 rr.2)) {K51 : zS → Int → Int → Int → Int → Int → Int → Int → Option (Int × zS)} (hK51 : ∀ (σ : zS) (x1 : Int) (x2 : Int) (x3 : Int) (x4 : Int) (x5 : Int) (x6 : Int) (x7 : Int) , K51 σ x1 x2 x3 x4 x5 x6 x7 = some rr → z_W C σ 51 [(0, .ref (z_ad (z_g C) 0)), (1, .int (zi x1)), (2, .int (zi x2)), (3, .int (zi x3)), (4, .int (zi x4)), (5, .int (zi x5)), (6, .int (zi x6)), (7, .int (zi x7))] []) (σ : zS) (x1 : Int) (x2 : Int) (x3 : Int) (x4 : Int) (x5 : Int) (x7 : Int) (h : f_X6_mark_b90 K51 σ x1 x2 x3 x4 x5 x7 = some rr) : z_W C σ 90 [(0, .ref (z_ad (z_g C) 0)), (1, .int (zi x1)), (2, .int (zi x2)), (3, .int (zi x3)), (4, .int (zi x4)), (5, .int (zi x5)), (7, .int (zi x7))] [] := by
  unfold f_X6_mark_b90 at h
  refine z_iconst hx (n := 1) dX6_mark_90 ?_
  refine z_goto hx (tgt := 95) dX6_mark_91 (by decide) ?_
  refine z_sub [0, 1, 2, 3, 4, 5, 6] rfl ?_
  exact w_X6_mark_b95 hx hn hR hq hK51 σ x1 x2 x3 x4 x5 x7 1 h

theorem w_X6_mark_b51 {C : zC} (hx : z_ok C cX6_mark RX6 1) (hn : z_nL C = 8) (hR : z_R C = rm_X6_mark) {rr : Int × zS} (hq : z_fin C (some .int) (z_QI (z_g C) rr.1 rr.2)) {K51 : zS → Int → Int → Int → Int → Int → Int → Int → Option (Int × zS)} (hK51 : ∀ (σ : zS) (x1 : Int) (x2 : Int) (x3 : Int) (x4 : Int) (x5 : Int) (x6 : Int) (x7 : Int) , K51 σ x1 x2 x3 x4 x5 x6 x7 = some rr → z_W C σ 51 [(0, .ref (z_ad (z_g C) 0)), (1, .int (zi x1)), (2, .int (zi x2)), (3, .int (zi x3)), (4, .int (zi x4)), (5, .int (zi x5)), (6, .int (zi x6)), (7, .int (zi x7))] []) (σ : zS) (x1 : Int) (x2 : Int) (x3 : Int) (x4 : Int) (x5 : Int) (x6 : Int) (x7 : Int) (h : f_X6_mark_b51 K51 σ x1 x2 x3 x4 x5 x6 x7 = some rr) : z_W C σ 51 [(0, .ref (z_ad (z_g C) 0)), (1, .int (zi x1)), (2, .int (zi x2)), (3, .int (zi x3)), (4, .int (zi x4)), (5, .int (zi x5)), (6, .int (zi x6)), (7, .int (zi x7))] [] := by
  unfold f_X6_mark_b51 at h
  refine z_iload hx 7 dX6_mark_51 rfl ?_
  refine z_aload_n hx 0 dX6_mark_53 rfl ?_
  refine gf_X6_v hx wf_X6_7 dX6_mark_54 ?_
  refine z_bipush hx (n := 8) dX6_mark_57 rfl ?_
  refine z_iald hx (n := 320) (z_lt1 (z_ok_sd hx) (by decide)) (z_kc1 (z_ok_sd hx) _) rfl (by decide) dX6_mark_59 h (fun h => ?_)
  refine z_icmp_ge hx (tgt := 124) dX6_mark_60 (by decide) h (fun h => h) (fun hc h => ?_) (fun hc h => ?_)
  · refine z_iload hx 6 dX6_mark_124 rfl ?_
    refine z_if_eq hx (tgt := 132) dX6_mark_126 (by decide) h (fun h => h) (fun hc h => ?_) (fun hc h => ?_)
    · refine z_aload_n hx 0 dX6_mark_132 rfl ?_
      refine gf_X6_v hx wf_X6_7 dX6_mark_133 ?_
      refine z_bipush hx (n := 8) dX6_mark_136 rfl ?_
      refine z_iald hx (n := 320) (z_lt1 (z_ok_sd hx) (by decide)) (z_kc1 (z_ok_sd hx) _) rfl (by decide) dX6_mark_138 h (fun h => ?_)
      refine z_bipush hx (n := 20) dX6_mark_139 rfl ?_
      refine z_icmp_ne hx (tgt := 147) dX6_mark_141 (by decide) h (fun h => ⟨h, by decide⟩) (fun hc h => ?_) (fun hc h => ?_)
      · refine z_aload_n hx 0 dX6_mark_147 rfl ?_
        obtain ⟨⟨⟩, σ1, h148, h⟩ := z_bind_some h
        refine z_callv hx (As := []) (k := 0) (met_X6_act (z_l C) (z_g C) (z_ok_sd hx) h148) (z_lt1 (z_ok_sd hx) (by decide)) (z_kc0 (z_ok_sd hx) _) rfl rfl cv_X6_88 (z_room hR ⟨Nat.le_of_ble_eq_true rfl, Nat.le_of_ble_eq_true rfl⟩) ⟨rfl, rfl⟩ rfl rfl (Nat.le_of_ble_eq_true rfl) dX6_mark_148 ?_
        refine z_sipush hx (n := 210) dX6_mark_151 rfl ?_
        refine z_iconst hx (n := 5) dX6_mark_154 ?_
        refine z_aload_n hx 0 dX6_mark_155 rfl ?_
        refine gf_X6_v hx wf_X6_7 dX6_mark_156 ?_
        refine z_bipush hx (n := 8) dX6_mark_159 rfl ?_
        refine z_iald hx (n := 320) (z_lt1 (z_ok_sd hx) (by decide)) (z_kc1 (z_ok_sd hx) _) rfl (by decide) dX6_mark_161 h (fun h => ?_)
        refine z_imul hx dX6_mark_162 ?_
        refine z_iadd hx dX6_mark_163 ?_
        refine z_iconst hx (n := 1) dX6_mark_164 ?_
        refine z_isub hx dX6_mark_165 ?_
        refine z_istore hx hn (lv' := [(7, .int (zi ((210 + (5 * (σ1 1 8))) - 1))), (0, .ref (z_ad (z_g C) 0)), (1, .int (zi x1)), (2, .int (zi x2)), (3, .int (zi x3)), (4, .int (zi x4)), (5, .int (zi x5)), (6, .int (zi x6))]) dX6_mark_166 (by decide) rfl ?_
        refine z_sub [1, 2, 3, 4, 5, 6, 0] rfl ?_
        exact w_X6_mark_l168 hx hn hR hq z_fuel σ1 x1 x2 x3 x4 x5 ((210 + (5 * (σ1 1 8))) - 1) h
      · refine z_bipush hx (n := (-3)) dX6_mark_144 rfl ?_
        cases h
        exact z_iret hx hq dX6_mark_146
    · refine z_bipush hx (n := (-2)) dX6_mark_129 rfl ?_
      cases h
      exact z_iret hx hq dX6_mark_131
  · refine z_iload hx 6 dX6_mark_63 rfl ?_
    refine z_if_ne hx (tgt := 90) dX6_mark_65 (by decide) h (fun h => h) (fun hc h => ?_) (fun hc h => ?_)
    · refine z_sub [0, 1, 2, 3, 4, 5, 7] rfl ?_
      exact w_X6_mark_b90 hx hn hR hq hK51 σ x1 x2 x3 x4 x5 x7 h
    · refine z_iload_n hx 2 dX6_mark_68 rfl ?_
      refine z_aload_n hx 0 dX6_mark_69 rfl ?_
      refine z_iload hx 7 dX6_mark_70 rfl ?_
      refine z_iconst hx (n := 2) dX6_mark_72 ?_
      obtain ⟨r3, σ2, h73, h⟩ := z_bind_some h
      refine z_calli hx (As := [.int (zi x7), .int (zi 2)]) (k := 0) (met_X6_of (z_l C) (z_g C) (z_ok_sd hx) h73) (z_lt1 (z_ok_sd hx) (by decide)) (z_kc0 (z_ok_sd hx) _) rfl rfl cv_X6_92 (z_room hR ⟨Nat.le_of_ble_eq_true rfl, Nat.le_of_ble_eq_true rfl⟩) ⟨rfl, rfl⟩ rfl rfl (Nat.le_of_ble_eq_true rfl) dX6_mark_73 ?_
      refine z_icmp_ge hx (tgt := 94) dX6_mark_76 (by decide) h (fun h => h) (fun hc h => ?_) (fun hc h => ?_)
      · refine z_sub [0, 1, 2, 3, 4, 5, 7] rfl ?_
        exact w_X6_mark_b94 hx hn hR hq hK51 σ2 x1 x2 x3 x4 x5 x7 h
      · refine z_aload_n hx 0 dX6_mark_79 rfl ?_
        refine z_iload hx 7 dX6_mark_80 rfl ?_
        refine z_iconst hx (n := 1) dX6_mark_82 ?_
        obtain ⟨r5, σ4, h83, h⟩ := z_bind_some h
        refine z_calli hx (As := [.int (zi x7), .int (zi 1)]) (k := 0) (met_X6_of (z_l C) (z_g C) (z_ok_sd hx) h83) (z_lt1 (z_ok_sd hx) (by decide)) (z_kc0 (z_ok_sd hx) _) rfl rfl cv_X6_92 (z_room hR ⟨Nat.le_of_ble_eq_true rfl, Nat.le_of_ble_eq_true rfl⟩) ⟨rfl, rfl⟩ rfl rfl (Nat.le_of_ble_eq_true rfl) dX6_mark_83 ?_
        refine z_iload_n hx 3 dX6_mark_86 rfl ?_
        refine z_icmp_ge hx (tgt := 94) dX6_mark_87 (by decide) h (fun h => h) (fun hc h => ?_) (fun hc h => ?_)
        · refine z_sub [0, 1, 2, 3, 4, 5, 7] rfl ?_
          exact w_X6_mark_b94 hx hn hR hq hK51 σ4 x1 x2 x3 x4 x5 x7 h
        · refine z_sub [0, 1, 2, 3, 4, 5, 7] rfl ?_
          exact w_X6_mark_b90 hx hn hR hq hK51 σ4 x1 x2 x3 x4 x5 x7 h

theorem w_X6_mark_l51 {C : zC} (hx : z_ok C cX6_mark RX6 1) (hn : z_nL C = 8) (hR : z_R C = rm_X6_mark) {rr : Int × zS} (hq : z_fin C (some .int) (z_QI (z_g C) rr.1 rr.2)) : ∀ (n : Nat) (σ : zS) (x1 : Int) (x2 : Int) (x3 : Int) (x4 : Int) (x5 : Int) (x6 : Int) (x7 : Int) (_ : f_X6_mark_l51 n σ x1 x2 x3 x4 x5 x6 x7 = some rr), z_W C σ 51 [(0, .ref (z_ad (z_g C) 0)), (1, .int (zi x1)), (2, .int (zi x2)), (3, .int (zi x3)), (4, .int (zi x4)), (5, .int (zi x5)), (6, .int (zi x6)), (7, .int (zi x7))] [] := by
  intro n
  induction n with
  | zero => intro σ x1 x2 x3 x4 x5 x6 x7 h; cases h
  | succ n ih =>
    intro σ x1 x2 x3 x4 x5 x6 x7 h
    exact w_X6_mark_b51 hx hn hR hq ih σ x1 x2 x3 x4 x5 x6 x7 h
theorem w_X6_mark_b40 {C : zC} (hx : z_ok C cX6_mark RX6 1) (hn : z_nL C = 8) (hR : z_R C = rm_X6_mark) {rr : Int × zS} (hq : z_fin C (some .int) (z_QI (z_g C) rr.1 rr.2)) (σ : zS) (h : f_X6_mark_b40 σ = some rr) : z_W C σ 40 [] [] := by
  unfold f_X6_mark_b40 at h
  refine z_iconst hx (n := (-1)) dX6_mark_40 ?_
  cases h
  exact z_iret hx hq dX6_mark_41

theorem w_X6_mark {C : zC} (hx : z_ok C cX6_mark RX6 1) (hn : z_nL C = 8) (hR : z_R C = rm_X6_mark) {rr : Int × zS} (hq : z_fin C (some .int) (z_QI (z_g C) rr.1 rr.2)) (σ : zS) (x1 : Int) (x2 : Int) (x3 : Int) (x4 : Int) (h : f_X6_mark σ x1 x2 x3 x4 = some rr) : z_W C σ 0 [(0, .ref (z_ad (z_g C) 0)), (1, .int (zi x1)), (2, .int (zi x2)), (3, .int (zi x3)), (4, .int (zi x4))] [] := by
  unfold f_X6_mark at h
  refine z_iload_n hx 1 dX6_mark_0 rfl ?_
  refine z_iconst hx (n := 0) dX6_mark_1 ?_
  refine z_iconst hx (n := 3) dX6_mark_2 ?_
  obtain ⟨r2, σ1, h3, h⟩ := z_bind_some h
  refine z_calls hx (As := [.int (zi x1), .int (zi 0), .int (zi 3)]) (met_X6_in (z_l C) (z_g C) (z_ok_sd hx) h3) cv_X6_41 (z_room hR ⟨Nat.le_of_ble_eq_true rfl, Nat.le_of_ble_eq_true rfl⟩) ⟨rfl, rfl⟩ rfl rfl (Nat.le_of_ble_eq_true rfl) dX6_mark_3 ?_
  refine z_if_eq hx (tgt := 40) dX6_mark_6 (by decide) h (fun h => h) (fun hc h => ?_) (fun hc h => ?_)
  · refine z_sub [] rfl ?_
    exact w_X6_mark_b40 hx hn hR hq σ1 h
  · refine z_iload_n hx 2 dX6_mark_9 rfl ?_
    refine z_if_lt hx (tgt := 40) dX6_mark_10 (by decide) h (fun h => h) (fun hc h => ?_) (fun hc h => ?_)
    · refine z_sub [] rfl ?_
      exact w_X6_mark_b40 hx hn hR hq σ1 h
    · refine z_iload_n hx 3 dX6_mark_13 rfl ?_
      refine z_aload_n hx 0 dX6_mark_14 rfl ?_
      refine gf_X6_v hx wf_X6_7 dX6_mark_15 ?_
      refine z_bipush hx (n := 7) dX6_mark_18 rfl ?_
      refine z_iald hx (n := 320) (z_lt1 (z_ok_sd hx) (by decide)) (z_kc1 (z_ok_sd hx) _) rfl (by decide) dX6_mark_20 h (fun h => ?_)
      refine z_icmp_gt hx (tgt := 40) dX6_mark_21 (by decide) h (fun h => h) (fun hc h => ?_) (fun hc h => ?_)
      · refine z_sub [] rfl ?_
        exact w_X6_mark_b40 hx hn hR hq σ1 h
      · refine z_iload_n hx 3 dX6_mark_24 rfl ?_
        refine z_iload_n hx 2 dX6_mark_25 rfl ?_
        refine z_icmp_le hx (tgt := 40) dX6_mark_26 (by decide) h (fun h => h) (fun hc h => ?_) (fun hc h => ?_)
        · refine z_sub [] rfl ?_
          exact w_X6_mark_b40 hx hn hR hq σ1 h
        · refine z_iload hx 4 dX6_mark_29 rfl ?_
          refine z_iconst hx (n := 0) dX6_mark_31 ?_
          refine z_bipush hx (n := 100) dX6_mark_32 rfl ?_
          obtain ⟨r4, σ3, h34, h⟩ := z_bind_some h
          refine z_calls hx (As := [.int (zi x4), .int (zi 0), .int (zi 100)]) (met_X6_in (z_l C) (z_g C) (z_ok_sd hx) h34) cv_X6_41 (z_room hR ⟨Nat.le_of_ble_eq_true rfl, Nat.le_of_ble_eq_true rfl⟩) ⟨rfl, rfl⟩ rfl rfl (Nat.le_of_ble_eq_true rfl) dX6_mark_34 ?_
          refine z_if_ne hx (tgt := 42) dX6_mark_37 (by decide) h (fun h => h) (fun hc h => ?_) (fun hc h => ?_)
          · refine z_iconst hx (n := 0) dX6_mark_42 ?_
            refine z_istore hx hn (lv' := [(5, .int (zi 0)), (0, .ref (z_ad (z_g C) 0)), (1, .int (zi x1)), (2, .int (zi x2)), (3, .int (zi x3)), (4, .int (zi x4))]) dX6_mark_43 (by decide) rfl ?_
            refine z_iconst hx (n := 0) dX6_mark_45 ?_
            refine z_istore hx hn (lv' := [(6, .int (zi 0)), (5, .int (zi 0)), (0, .ref (z_ad (z_g C) 0)), (1, .int (zi x1)), (2, .int (zi x2)), (3, .int (zi x3)), (4, .int (zi x4))]) dX6_mark_46 (by decide) rfl ?_
            refine z_iconst hx (n := 0) dX6_mark_48 ?_
            refine z_istore hx hn (lv' := [(7, .int (zi 0)), (6, .int (zi 0)), (5, .int (zi 0)), (0, .ref (z_ad (z_g C) 0)), (1, .int (zi x1)), (2, .int (zi x2)), (3, .int (zi x3)), (4, .int (zi x4))]) dX6_mark_49 (by decide) rfl ?_
            refine z_sub [3, 4, 5, 6, 7, 2, 1, 0] rfl ?_
            exact w_X6_mark_l51 hx hn hR hq z_fuel σ3 x1 x2 x3 x4 0 0 0 h
          · refine z_sub [] rfl ?_
            exact w_X6_mark_b40 hx hn hR hq σ3 h

theorem met_X6_mark (l : Launch) (g : zG) (hg : g.1 = 1) {σ : zS} {x1 : Int} {x2 : Int} {x3 : Int} {x4 : Int} {rr : Int × zS} (h : f_X6_mark σ x1 x2 x3 x4 = some rr) : z_Met l yX6_mark cX6_mark 8 (some .int) rm_X6_mark g [.ref (z_ad (g) 0), .int (zi x1), .int (zi x2), .int (zi x3), .int (zi x4)] σ (z_QI g rr.1 rr.2) := by
  refine z_enter (own := RX6) (sd := 1) (lv0 := [(0, .ref (z_ad (g) 0)), (1, .int (zi x1)), (2, .int (zi x2)), (3, .int (zi x3)), (4, .int (zi x4))]) (by decide) rfl (Nat.le_of_ble_eq_true rfl) hg rfl (fun C hx hl hgC hR hn hq => ?_)
  subst hgC
  refine z_sub [0, 1, 2, 3, 4] rfl ?_
  exact w_X6_mark hx hn hR hq σ x1 x2 x3 x4 h
theorem dX6_unmark_0 : decode cX6_unmark 0 = .ok (.aload_n 0, 1) := by decide +kernel
theorem dX6_unmark_1 : decode cX6_unmark 1 = .ok (.iload_n 1, 1) := by decide +kernel
theorem dX6_unmark_2 : decode cX6_unmark 2 = .ok (.invokevirtual 96, 3) := by decide +kernel
theorem dX6_unmark_5 : decode cX6_unmark 5 = .ok (.ifCond .ne 5, 3) := by decide +kernel
theorem dX6_unmark_8 : decode cX6_unmark 8 = .ok (.iconst (-1), 1) := by decide +kernel
theorem dX6_unmark_9 : decode cX6_unmark 9 = .ok (.ireturn, 1) := by decide +kernel
theorem dX6_unmark_10 : decode cX6_unmark 10 = .ok (.aload_n 0, 1) := by decide +kernel
theorem dX6_unmark_11 : decode cX6_unmark 11 = .ok (.invokevirtual 88, 3) := by decide +kernel
theorem dX6_unmark_14 : decode cX6_unmark 14 = .ok (.aload_n 0, 1) := by decide +kernel
theorem dX6_unmark_15 : decode cX6_unmark 15 = .ok (.getfield 7, 3) := by decide +kernel
theorem dX6_unmark_18 : decode cX6_unmark 18 = .ok (.bipush 8, 2) := by decide +kernel
theorem dX6_unmark_20 : decode cX6_unmark 20 = .ok (.dup2, 1) := by decide +kernel
theorem dX6_unmark_21 : decode cX6_unmark 21 = .ok (.iaload, 1) := by decide +kernel
theorem dX6_unmark_22 : decode cX6_unmark 22 = .ok (.iconst 1, 1) := by decide +kernel
theorem dX6_unmark_23 : decode cX6_unmark 23 = .ok (.isub, 1) := by decide +kernel
theorem dX6_unmark_24 : decode cX6_unmark 24 = .ok (.iastore, 1) := by decide +kernel
theorem dX6_unmark_25 : decode cX6_unmark 25 = .ok (.sipush 210, 3) := by decide +kernel
theorem dX6_unmark_28 : decode cX6_unmark 28 = .ok (.iconst 5, 1) := by decide +kernel
theorem dX6_unmark_29 : decode cX6_unmark 29 = .ok (.iload_n 1, 1) := by decide +kernel
theorem dX6_unmark_30 : decode cX6_unmark 30 = .ok (.imul, 1) := by decide +kernel
theorem dX6_unmark_31 : decode cX6_unmark 31 = .ok (.iadd, 1) := by decide +kernel
theorem dX6_unmark_32 : decode cX6_unmark 32 = .ok (.istore_n 2, 1) := by decide +kernel
theorem dX6_unmark_33 : decode cX6_unmark 33 = .ok (.iload_n 2, 1) := by decide +kernel
theorem dX6_unmark_34 : decode cX6_unmark 34 = .ok (.sipush 210, 3) := by decide +kernel
theorem dX6_unmark_37 : decode cX6_unmark 37 = .ok (.iconst 5, 1) := by decide +kernel
theorem dX6_unmark_38 : decode cX6_unmark 38 = .ok (.aload_n 0, 1) := by decide +kernel
theorem dX6_unmark_39 : decode cX6_unmark 39 = .ok (.getfield 7, 3) := by decide +kernel
theorem dX6_unmark_42 : decode cX6_unmark 42 = .ok (.bipush 8, 2) := by decide +kernel
theorem dX6_unmark_44 : decode cX6_unmark 44 = .ok (.iaload, 1) := by decide +kernel
theorem dX6_unmark_45 : decode cX6_unmark 45 = .ok (.imul, 1) := by decide +kernel
theorem dX6_unmark_46 : decode cX6_unmark 46 = .ok (.iadd, 1) := by decide +kernel
theorem dX6_unmark_47 : decode cX6_unmark 47 = .ok (.if_icmp .ge 23, 3) := by decide +kernel
theorem dX6_unmark_50 : decode cX6_unmark 50 = .ok (.aload_n 0, 1) := by decide +kernel
theorem dX6_unmark_51 : decode cX6_unmark 51 = .ok (.getfield 7, 3) := by decide +kernel
theorem dX6_unmark_54 : decode cX6_unmark 54 = .ok (.iload_n 2, 1) := by decide +kernel
theorem dX6_unmark_55 : decode cX6_unmark 55 = .ok (.aload_n 0, 1) := by decide +kernel
theorem dX6_unmark_56 : decode cX6_unmark 56 = .ok (.getfield 7, 3) := by decide +kernel
theorem dX6_unmark_59 : decode cX6_unmark 59 = .ok (.iload_n 2, 1) := by decide +kernel
theorem dX6_unmark_60 : decode cX6_unmark 60 = .ok (.iconst 5, 1) := by decide +kernel
theorem dX6_unmark_61 : decode cX6_unmark 61 = .ok (.iadd, 1) := by decide +kernel
theorem dX6_unmark_62 : decode cX6_unmark 62 = .ok (.iaload, 1) := by decide +kernel
theorem dX6_unmark_63 : decode cX6_unmark 63 = .ok (.iastore, 1) := by decide +kernel
theorem dX6_unmark_64 : decode cX6_unmark 64 = .ok (.iinc 2 1, 3) := by decide +kernel
theorem dX6_unmark_67 : decode cX6_unmark 67 = .ok (.goto (-34), 3) := by decide +kernel
theorem dX6_unmark_70 : decode cX6_unmark 70 = .ok (.aload_n 0, 1) := by decide +kernel
theorem dX6_unmark_71 : decode cX6_unmark 71 = .ok (.getfield 7, 3) := by decide +kernel
theorem dX6_unmark_74 : decode cX6_unmark 74 = .ok (.bipush 8, 2) := by decide +kernel
theorem dX6_unmark_76 : decode cX6_unmark 76 = .ok (.iaload, 1) := by decide +kernel
theorem dX6_unmark_77 : decode cX6_unmark 77 = .ok (.ireturn, 1) := by decide +kernel
abbrev rm_X6_unmark : Room := { frames := 2, cells := 0, slots := 0, locals := 43 }
theorem w_X6_unmark_b33 {C : zC} (hx : z_ok C cX6_unmark RX6 1) (hn : z_nL C = 3) (hR : z_R C = rm_X6_unmark) {rr : Int × zS} (hq : z_fin C (some .int) (z_QI (z_g C) rr.1 rr.2)) {K33 : zS → Int → Option (Int × zS)} (hK33 : ∀ (σ : zS) (x2 : Int) , K33 σ x2 = some rr → z_W C σ 33 [(0, .ref (z_ad (z_g C) 0)), (2, .int (zi x2))] []) (σ : zS) (x2 : Int) (h : f_X6_unmark_b33 K33 σ x2 = some rr) : z_W C σ 33 [(0, .ref (z_ad (z_g C) 0)), (2, .int (zi x2))] [] := by
  unfold f_X6_unmark_b33 at h
  refine z_iload_n hx 1 dX6_unmark_33 rfl ?_
  refine z_sipush hx (n := 210) dX6_unmark_34 rfl ?_
  refine z_iconst hx (n := 5) dX6_unmark_37 ?_
  refine z_aload_n hx 0 dX6_unmark_38 rfl ?_
  refine gf_X6_v hx wf_X6_7 dX6_unmark_39 ?_
  refine z_bipush hx (n := 8) dX6_unmark_42 rfl ?_
  refine z_iald hx (n := 320) (z_lt1 (z_ok_sd hx) (by decide)) (z_kc1 (z_ok_sd hx) _) rfl (by decide) dX6_unmark_44 h (fun h => ?_)
  refine z_imul hx dX6_unmark_45 ?_
  refine z_iadd hx dX6_unmark_46 ?_
  refine z_icmp_ge hx (tgt := 70) dX6_unmark_47 (by decide) h (fun h => h) (fun hc h => ?_) (fun hc h => ?_)
  · refine z_aload_n hx 0 dX6_unmark_70 rfl ?_
    refine gf_X6_v hx wf_X6_7 dX6_unmark_71 ?_
    refine z_bipush hx (n := 8) dX6_unmark_74 rfl ?_
    refine z_iald hx (n := 320) (z_lt1 (z_ok_sd hx) (by decide)) (z_kc1 (z_ok_sd hx) _) rfl (by decide) dX6_unmark_76 h (fun h => ?_)
    cases h
    exact z_iret hx hq dX6_unmark_77
  · refine z_aload_n hx 0 dX6_unmark_50 rfl ?_
    refine gf_X6_v hx wf_X6_7 dX6_unmark_51 ?_
    refine z_iload_n hx 1 dX6_unmark_54 rfl ?_
    refine z_aload_n hx 0 dX6_unmark_55 rfl ?_
    refine gf_X6_v hx wf_X6_7 dX6_unmark_56 ?_
    refine z_iload_n hx 1 dX6_unmark_59 rfl ?_
    refine z_iconst hx (n := 5) dX6_unmark_60 ?_
    refine z_iadd hx dX6_unmark_61 ?_
    refine z_iald hx (n := 320) (z_lt1 (z_ok_sd hx) (by decide)) (z_kc1 (z_ok_sd hx) _) rfl (by decide) dX6_unmark_62 h (fun h => ?_)
    refine z_iast hx (n := 320) (z_lt1 (z_ok_sd hx) (by decide)) (z_kc1 (z_ok_sd hx)) rfl (by decide) dX6_unmark_63 h (fun σ1 h => ?_)
    refine z_iinc hx hn 1 (lv' := [(2, .int (zi (x2 + 1))), (0, .ref (z_ad (z_g C) 0))]) dX6_unmark_64 rfl (by decide) rfl ?_
    refine z_goto hx (tgt := 33) dX6_unmark_67 (by decide) ?_
    refine z_sub [1, 0] rfl ?_
    exact hK33 σ1 (x2 + 1) h

theorem w_X6_unmark_l33 {C : zC} (hx : z_ok C cX6_unmark RX6 1) (hn : z_nL C = 3) (hR : z_R C = rm_X6_unmark) {rr : Int × zS} (hq : z_fin C (some .int) (z_QI (z_g C) rr.1 rr.2)) : ∀ (n : Nat) (σ : zS) (x2 : Int) (_ : f_X6_unmark_l33 n σ x2 = some rr), z_W C σ 33 [(0, .ref (z_ad (z_g C) 0)), (2, .int (zi x2))] [] := by
  intro n
  induction n with
  | zero => intro σ x2 h; cases h
  | succ n ih =>
    intro σ x2 h
    exact w_X6_unmark_b33 hx hn hR hq ih σ x2 h
theorem w_X6_unmark {C : zC} (hx : z_ok C cX6_unmark RX6 1) (hn : z_nL C = 3) (hR : z_R C = rm_X6_unmark) {rr : Int × zS} (hq : z_fin C (some .int) (z_QI (z_g C) rr.1 rr.2)) (σ : zS) (x1 : Int) (h : f_X6_unmark σ x1 = some rr) : z_W C σ 0 [(0, .ref (z_ad (z_g C) 0)), (1, .int (zi x1))] [] := by
  unfold f_X6_unmark at h
  refine z_aload_n hx 0 dX6_unmark_0 rfl ?_
  refine z_iload_n hx 1 dX6_unmark_1 rfl ?_
  obtain ⟨r2, σ1, h2, h⟩ := z_bind_some h
  refine z_calli hx (As := [.int (zi x1)]) (k := 0) (met_X6_isMark (z_l C) (z_g C) (z_ok_sd hx) h2) (z_lt1 (z_ok_sd hx) (by decide)) (z_kc0 (z_ok_sd hx) _) rfl rfl cv_X6_96 (z_room hR ⟨Nat.le_of_ble_eq_true rfl, Nat.le_of_ble_eq_true rfl⟩) ⟨rfl, rfl⟩ rfl rfl (Nat.le_of_ble_eq_true rfl) dX6_unmark_2 ?_
  refine z_if_ne hx (tgt := 10) dX6_unmark_5 (by decide) h (fun h => h) (fun hc h => ?_) (fun hc h => ?_)
  · refine z_aload_n hx 0 dX6_unmark_10 rfl ?_
    obtain ⟨⟨⟩, σ3, h11, h⟩ := z_bind_some h
    refine z_callv hx (As := []) (k := 0) (met_X6_act (z_l C) (z_g C) (z_ok_sd hx) h11) (z_lt1 (z_ok_sd hx) (by decide)) (z_kc0 (z_ok_sd hx) _) rfl rfl cv_X6_88 (z_room hR ⟨Nat.le_of_ble_eq_true rfl, Nat.le_of_ble_eq_true rfl⟩) ⟨rfl, rfl⟩ rfl rfl (Nat.le_of_ble_eq_true rfl) dX6_unmark_11 ?_
    refine z_aload_n hx 0 dX6_unmark_14 rfl ?_
    refine gf_X6_v hx wf_X6_7 dX6_unmark_15 ?_
    refine z_bipush hx (n := 8) dX6_unmark_18 rfl ?_
    refine z_dup2 hx dX6_unmark_20 rfl rfl ?_
    refine z_iald hx (n := 320) (z_lt1 (z_ok_sd hx) (by decide)) (z_kc1 (z_ok_sd hx) _) rfl (by decide) dX6_unmark_21 h (fun h => ?_)
    refine z_iconst hx (n := 1) dX6_unmark_22 ?_
    refine z_isub hx dX6_unmark_23 ?_
    refine z_iast hx (n := 320) (z_lt1 (z_ok_sd hx) (by decide)) (z_kc1 (z_ok_sd hx)) rfl (by decide) dX6_unmark_24 h (fun σ4 h => ?_)
    refine z_sipush hx (n := 210) dX6_unmark_25 rfl ?_
    refine z_iconst hx (n := 5) dX6_unmark_28 ?_
    refine z_iload_n hx 1 dX6_unmark_29 rfl ?_
    refine z_imul hx dX6_unmark_30 ?_
    refine z_iadd hx dX6_unmark_31 ?_
    refine z_istore_n hx hn (lv' := [(2, .int (zi (210 + (5 * x1)))), (0, .ref (z_ad (z_g C) 0)), (1, .int (zi x1))]) dX6_unmark_32 (by decide) rfl ?_
    refine z_sub [1, 0] rfl ?_
    exact w_X6_unmark_l33 hx hn hR hq z_fuel σ4 (210 + (5 * x1)) h
  · refine z_iconst hx (n := (-1)) dX6_unmark_8 ?_
    cases h
    exact z_iret hx hq dX6_unmark_9

theorem met_X6_unmark (l : Launch) (g : zG) (hg : g.1 = 1) {σ : zS} {x1 : Int} {rr : Int × zS} (h : f_X6_unmark σ x1 = some rr) : z_Met l yX6_unmark cX6_unmark 3 (some .int) rm_X6_unmark g [.ref (z_ad (g) 0), .int (zi x1)] σ (z_QI g rr.1 rr.2) := by
  refine z_enter (own := RX6) (sd := 1) (lv0 := [(0, .ref (z_ad (g) 0)), (1, .int (zi x1))]) (by decide) rfl (Nat.le_of_ble_eq_true rfl) hg rfl (fun C hx hl hgC hR hn hq => ?_)
  subst hgC
  refine z_sub [0, 1] rfl ?_
  exact w_X6_unmark hx hn hR hq σ x1 h
theorem dX6_sets_0 : decode cX6_sets 0 = .ok (.aload_n 0, 1) := by decide +kernel
theorem dX6_sets_1 : decode cX6_sets 1 = .ok (.invokevirtual 88, 3) := by decide +kernel
theorem dX6_sets_4 : decode cX6_sets 4 = .ok (.aload_n 0, 1) := by decide +kernel
theorem dX6_sets_5 : decode cX6_sets 5 = .ok (.getfield 7, 3) := by decide +kernel
theorem dX6_sets_8 : decode cX6_sets 8 = .ok (.iload_n 1, 1) := by decide +kernel
theorem dX6_sets_9 : decode cX6_sets 9 = .ok (.iaload, 1) := by decide +kernel
theorem dX6_sets_10 : decode cX6_sets 10 = .ok (.istore_n 3, 1) := by decide +kernel
theorem dX6_sets_11 : decode cX6_sets 11 = .ok (.aload_n 0, 1) := by decide +kernel
theorem dX6_sets_12 : decode cX6_sets 12 = .ok (.getfield 7, 3) := by decide +kernel
theorem dX6_sets_15 : decode cX6_sets 15 = .ok (.iload_n 1, 1) := by decide +kernel
theorem dX6_sets_16 : decode cX6_sets 16 = .ok (.iload_n 2, 1) := by decide +kernel
theorem dX6_sets_17 : decode cX6_sets 17 = .ok (.iastore, 1) := by decide +kernel
theorem dX6_sets_18 : decode cX6_sets 18 = .ok (.iload_n 3, 1) := by decide +kernel
theorem dX6_sets_19 : decode cX6_sets 19 = .ok (.ireturn, 1) := by decide +kernel
abbrev rm_X6_sets : Room := { frames := 1, cells := 0, slots := 0, locals := 21 }
theorem w_X6_sets {C : zC} (hx : z_ok C cX6_sets RX6 1) (hn : z_nL C = 4) (hR : z_R C = rm_X6_sets) {rr : Int × zS} (hq : z_fin C (some .int) (z_QI (z_g C) rr.1 rr.2)) (σ : zS) (x1 : Int) (x2 : Int) (h : f_X6_sets σ x1 x2 = some rr) : z_W C σ 0 [(0, .ref (z_ad (z_g C) 0)), (1, .int (zi x1)), (2, .int (zi x2))] [] := by
  unfold f_X6_sets at h
  refine z_aload_n hx 0 dX6_sets_0 rfl ?_
  obtain ⟨⟨⟩, σ1, h1, h⟩ := z_bind_some h
  refine z_callv hx (As := []) (k := 0) (met_X6_act (z_l C) (z_g C) (z_ok_sd hx) h1) (z_lt1 (z_ok_sd hx) (by decide)) (z_kc0 (z_ok_sd hx) _) rfl rfl cv_X6_88 (z_room hR ⟨Nat.le_of_ble_eq_true rfl, Nat.le_of_ble_eq_true rfl⟩) ⟨rfl, rfl⟩ rfl rfl (Nat.le_of_ble_eq_true rfl) dX6_sets_1 ?_
  refine z_aload_n hx 0 dX6_sets_4 rfl ?_
  refine gf_X6_v hx wf_X6_7 dX6_sets_5 ?_
  refine z_iload_n hx 1 dX6_sets_8 rfl ?_
  refine z_iald hx (n := 320) (z_lt1 (z_ok_sd hx) (by decide)) (z_kc1 (z_ok_sd hx) _) rfl (by decide) dX6_sets_9 h (fun h => ?_)
  refine z_istore_n hx hn (lv' := [(3, .int (zi (σ1 1 x1))), (0, .ref (z_ad (z_g C) 0)), (1, .int (zi x1)), (2, .int (zi x2))]) dX6_sets_10 (by decide) rfl ?_
  refine z_aload_n hx 1 dX6_sets_11 rfl ?_
  refine gf_X6_v hx wf_X6_7 dX6_sets_12 ?_
  refine z_iload_n hx 2 dX6_sets_15 rfl ?_
  refine z_iload_n hx 3 dX6_sets_16 rfl ?_
  refine z_iast hx (n := 320) (z_lt1 (z_ok_sd hx) (by decide)) (z_kc1 (z_ok_sd hx)) rfl (by decide) dX6_sets_17 h (fun σ2 h => ?_)
  refine z_iload_n hx 0 dX6_sets_18 rfl ?_
  cases h
  exact z_iret hx hq dX6_sets_19

theorem met_X6_sets (l : Launch) (g : zG) (hg : g.1 = 1) {σ : zS} {x1 : Int} {x2 : Int} {rr : Int × zS} (h : f_X6_sets σ x1 x2 = some rr) : z_Met l yX6_sets cX6_sets 4 (some .int) rm_X6_sets g [.ref (z_ad (g) 0), .int (zi x1), .int (zi x2)] σ (z_QI g rr.1 rr.2) := by
  refine z_enter (own := RX6) (sd := 1) (lv0 := [(0, .ref (z_ad (g) 0)), (1, .int (zi x1)), (2, .int (zi x2))]) (by decide) rfl (Nat.le_of_ble_eq_true rfl) hg rfl (fun C hx hl hgC hR hn hq => ?_)
  subst hgC
  refine z_sub [0, 1, 2] rfl ?_
  exact w_X6_sets hx hn hR hq σ x1 x2 h
theorem dX6_hold_0 : decode cX6_hold 0 = .ok (.aload_n 0, 1) := by decide +kernel
theorem dX6_hold_1 : decode cX6_hold 1 = .ok (.iload_n 1, 1) := by decide +kernel
theorem dX6_hold_2 : decode cX6_hold 2 = .ok (.invokevirtual 96, 3) := by decide +kernel
theorem dX6_hold_5 : decode cX6_hold 5 = .ok (.ifCond .eq 28, 3) := by decide +kernel
theorem dX6_hold_8 : decode cX6_hold 8 = .ok (.aload_n 0, 1) := by decide +kernel
theorem dX6_hold_9 : decode cX6_hold 9 = .ok (.sipush 210, 3) := by decide +kernel
theorem dX6_hold_12 : decode cX6_hold 12 = .ok (.iconst 5, 1) := by decide +kernel
theorem dX6_hold_13 : decode cX6_hold 13 = .ok (.iload_n 1, 1) := by decide +kernel
theorem dX6_hold_14 : decode cX6_hold 14 = .ok (.imul, 1) := by decide +kernel
theorem dX6_hold_15 : decode cX6_hold 15 = .ok (.iadd, 1) := by decide +kernel
theorem dX6_hold_16 : decode cX6_hold 16 = .ok (.iconst 4, 1) := by decide +kernel
theorem dX6_hold_17 : decode cX6_hold 17 = .ok (.iadd, 1) := by decide +kernel
theorem dX6_hold_18 : decode cX6_hold 18 = .ok (.iload_n 2, 1) := by decide +kernel
theorem dX6_hold_19 : decode cX6_hold 19 = .ok (.ifCond .eq 7, 3) := by decide +kernel
theorem dX6_hold_22 : decode cX6_hold 22 = .ok (.iconst 1, 1) := by decide +kernel
theorem dX6_hold_23 : decode cX6_hold 23 = .ok (.goto 4, 3) := by decide +kernel
theorem dX6_hold_26 : decode cX6_hold 26 = .ok (.iconst 0, 1) := by decide +kernel
theorem dX6_hold_27 : decode cX6_hold 27 = .ok (.invokevirtual 99, 3) := by decide +kernel
theorem dX6_hold_30 : decode cX6_hold 30 = .ok (.goto 4, 3) := by decide +kernel
theorem dX6_hold_33 : decode cX6_hold 33 = .ok (.iconst (-1), 1) := by decide +kernel
theorem dX6_hold_34 : decode cX6_hold 34 = .ok (.ireturn, 1) := by decide +kernel
abbrev rm_X6_hold : Room := { frames := 2, cells := 0, slots := 0, locals := 44 }
theorem w_X6_hold_b34 {C : zC} (hx : z_ok C cX6_hold RX6 1) (hn : z_nL C = 3) (hR : z_R C = rm_X6_hold) {rr : Int × zS} (hq : z_fin C (some .int) (z_QI (z_g C) rr.1 rr.2)) (σ : zS) (s0 : Int) (h : f_X6_hold_b34 σ s0 = some rr) : z_W C σ 34 [] [.int (zi s0)] := by
  unfold f_X6_hold_b34 at h
  cases h
  exact z_iret hx hq dX6_hold_34

theorem w_X6_hold_b27 {C : zC} (hx : z_ok C cX6_hold RX6 1) (hn : z_nL C = 3) (hR : z_R C = rm_X6_hold) {rr : Int × zS} (hq : z_fin C (some .int) (z_QI (z_g C) rr.1 rr.2)) (σ : zS) (s1 : Int) (s2 : Int) (h : f_X6_hold_b27 σ s1 s2 = some rr) : z_W C σ 27 [] [.int (zi s2), .int (zi s1), .ref (z_ad (z_g C) 0)] := by
  unfold f_X6_hold_b27 at h
  obtain ⟨r2, σ1, h27, h⟩ := z_bind_some h
  refine z_calli hx (As := [.int (zi s1), .int (zi s2)]) (k := 0) (met_X6_sets (z_l C) (z_g C) (z_ok_sd hx) h27) (z_lt1 (z_ok_sd hx) (by decide)) (z_kc0 (z_ok_sd hx) _) rfl rfl cv_X6_99 (z_room hR ⟨Nat.le_of_ble_eq_true rfl, Nat.le_of_ble_eq_true rfl⟩) ⟨rfl, rfl⟩ rfl rfl (Nat.le_of_ble_eq_true rfl) dX6_hold_27 ?_
  refine z_goto hx (tgt := 34) dX6_hold_30 (by decide) ?_
  refine z_sub [] rfl ?_
  exact w_X6_hold_b34 hx hn hR hq σ1 r2 h

theorem w_X6_hold {C : zC} (hx : z_ok C cX6_hold RX6 1) (hn : z_nL C = 3) (hR : z_R C = rm_X6_hold) {rr : Int × zS} (hq : z_fin C (some .int) (z_QI (z_g C) rr.1 rr.2)) (σ : zS) (x1 : Int) (x2 : Int) (h : f_X6_hold σ x1 x2 = some rr) : z_W C σ 0 [(0, .ref (z_ad (z_g C) 0)), (1, .int (zi x1)), (2, .int (zi x2))] [] := by
  unfold f_X6_hold at h
  refine z_aload_n hx 0 dX6_hold_0 rfl ?_
  refine z_iload_n hx 1 dX6_hold_1 rfl ?_
  obtain ⟨r2, σ1, h2, h⟩ := z_bind_some h
  refine z_calli hx (As := [.int (zi x1)]) (k := 0) (met_X6_isMark (z_l C) (z_g C) (z_ok_sd hx) h2) (z_lt1 (z_ok_sd hx) (by decide)) (z_kc0 (z_ok_sd hx) _) rfl rfl cv_X6_96 (z_room hR ⟨Nat.le_of_ble_eq_true rfl, Nat.le_of_ble_eq_true rfl⟩) ⟨rfl, rfl⟩ rfl rfl (Nat.le_of_ble_eq_true rfl) dX6_hold_2 ?_
  refine z_if_eq hx (tgt := 33) dX6_hold_5 (by decide) h (fun h => h) (fun hc h => ?_) (fun hc h => ?_)
  · refine z_iconst hx (n := (-1)) dX6_hold_33 ?_
    refine z_sub [] rfl ?_
    exact w_X6_hold_b34 hx hn hR hq σ1 (-1) h
  · refine z_aload_n hx 0 dX6_hold_8 rfl ?_
    refine z_sipush hx (n := 210) dX6_hold_9 rfl ?_
    refine z_iconst hx (n := 5) dX6_hold_12 ?_
    refine z_iload_n hx 1 dX6_hold_13 rfl ?_
    refine z_imul hx dX6_hold_14 ?_
    refine z_iadd hx dX6_hold_15 ?_
    refine z_iconst hx (n := 4) dX6_hold_16 ?_
    refine z_iadd hx dX6_hold_17 ?_
    refine z_iload_n hx 2 dX6_hold_18 rfl ?_
    refine z_if_eq hx (tgt := 26) dX6_hold_19 (by decide) h (fun h => h) (fun hc h => ?_) (fun hc h => ?_)
    · refine z_iconst hx (n := 0) dX6_hold_26 ?_
      refine z_sub [] rfl ?_
      exact w_X6_hold_b27 hx hn hR hq σ1 ((210 + (5 * x1)) + 4) 0 h
    · refine z_iconst hx (n := 1) dX6_hold_22 ?_
      refine z_goto hx (tgt := 27) dX6_hold_23 (by decide) ?_
      refine z_sub [] rfl ?_
      exact w_X6_hold_b27 hx hn hR hq σ1 ((210 + (5 * x1)) + 4) 1 h

theorem met_X6_hold (l : Launch) (g : zG) (hg : g.1 = 1) {σ : zS} {x1 : Int} {x2 : Int} {rr : Int × zS} (h : f_X6_hold σ x1 x2 = some rr) : z_Met l yX6_hold cX6_hold 3 (some .int) rm_X6_hold g [.ref (z_ad (g) 0), .int (zi x1), .int (zi x2)] σ (z_QI g rr.1 rr.2) := by
  refine z_enter (own := RX6) (sd := 1) (lv0 := [(0, .ref (z_ad (g) 0)), (1, .int (zi x1)), (2, .int (zi x2))]) (by decide) rfl (Nat.le_of_ble_eq_true rfl) hg rfl (fun C hx hl hgC hR hn hq => ?_)
  subst hgC
  refine z_sub [0, 1, 2] rfl ?_
  exact w_X6_hold hx hn hR hq σ x1 x2 h
theorem dX6_most_0 : decode cX6_most 0 = .ok (.iload_n 0, 1) := by decide +kernel
theorem dX6_most_1 : decode cX6_most 1 = .ok (.ifCond .eq 8, 3) := by decide +kernel
theorem dX6_most_4 : decode cX6_most 4 = .ok (.iload_n 0, 1) := by decide +kernel
theorem dX6_most_5 : decode cX6_most 5 = .ok (.iconst 4, 1) := by decide +kernel
theorem dX6_most_6 : decode cX6_most 6 = .ok (.if_icmp .ne 8, 3) := by decide +kernel
theorem dX6_most_9 : decode cX6_most 9 = .ok (.bipush 100, 2) := by decide +kernel
theorem dX6_most_11 : decode cX6_most 11 = .ok (.goto 25, 3) := by decide +kernel
theorem dX6_most_14 : decode cX6_most 14 = .ok (.iload_n 0, 1) := by decide +kernel
theorem dX6_most_15 : decode cX6_most 15 = .ok (.iconst 1, 1) := by decide +kernel
theorem dX6_most_16 : decode cX6_most 16 = .ok (.if_icmp .ne 8, 3) := by decide +kernel
theorem dX6_most_19 : decode cX6_most 19 = .ok (.bipush 9, 2) := by decide +kernel
theorem dX6_most_21 : decode cX6_most 21 = .ok (.goto 15, 3) := by decide +kernel
theorem dX6_most_24 : decode cX6_most 24 = .ok (.iload_n 0, 1) := by decide +kernel
theorem dX6_most_25 : decode cX6_most 25 = .ok (.iconst 2, 1) := by decide +kernel
theorem dX6_most_26 : decode cX6_most 26 = .ok (.if_icmp .ne 8, 3) := by decide +kernel
theorem dX6_most_29 : decode cX6_most 29 = .ok (.bipush 20, 2) := by decide +kernel
theorem dX6_most_31 : decode cX6_most 31 = .ok (.goto 5, 3) := by decide +kernel
theorem dX6_most_34 : decode cX6_most 34 = .ok (.bipush 50, 2) := by decide +kernel
theorem dX6_most_36 : decode cX6_most 36 = .ok (.ireturn, 1) := by decide +kernel
abbrev rm_X6_most : Room := { frames := 0, cells := 0, slots := 0, locals := 0 }
theorem w_X6_most_b36 {C : zC} (hx : z_ok C cX6_most RX6 1) (hn : z_nL C = 1) (hR : z_R C = rm_X6_most) {rr : Int × zS} (hq : z_fin C (some .int) (z_QI (z_g C) rr.1 rr.2)) (σ : zS) (s0 : Int) (h : f_X6_most_b36 σ s0 = some rr) : z_W C σ 36 [] [.int (zi s0)] := by
  unfold f_X6_most_b36 at h
  cases h
  exact z_iret hx hq dX6_most_36

theorem w_X6_most_b9 {C : zC} (hx : z_ok C cX6_most RX6 1) (hn : z_nL C = 1) (hR : z_R C = rm_X6_most) {rr : Int × zS} (hq : z_fin C (some .int) (z_QI (z_g C) rr.1 rr.2)) (σ : zS) (h : f_X6_most_b9 σ = some rr) : z_W C σ 9 [] [] := by
  unfold f_X6_most_b9 at h
  refine z_bipush hx (n := 100) dX6_most_9 rfl ?_
  refine z_goto hx (tgt := 36) dX6_most_11 (by decide) ?_
  refine z_sub [] rfl ?_
  exact w_X6_most_b36 hx hn hR hq σ 100 h

theorem w_X6_most {C : zC} (hx : z_ok C cX6_most RX6 1) (hn : z_nL C = 1) (hR : z_R C = rm_X6_most) {rr : Int × zS} (hq : z_fin C (some .int) (z_QI (z_g C) rr.1 rr.2)) (σ : zS) (x0 : Int) (h : f_X6_most σ x0 = some rr) : z_W C σ 0 [(0, .int (zi x0))] [] := by
  unfold f_X6_most at h
  refine z_iload_n hx 0 dX6_most_0 rfl ?_
  refine z_if_eq hx (tgt := 9) dX6_most_1 (by decide) h (fun h => h) (fun hc h => ?_) (fun hc h => ?_)
  · refine z_sub [] rfl ?_
    exact w_X6_most_b9 hx hn hR hq σ h
  · refine z_iload_n hx 0 dX6_most_4 rfl ?_
    refine z_iconst hx (n := 4) dX6_most_5 ?_
    refine z_icmp_ne hx (tgt := 14) dX6_most_6 (by decide) h (fun h => ⟨h, by decide⟩) (fun hc h => ?_) (fun hc h => ?_)
    · refine z_iload_n hx 0 dX6_most_14 rfl ?_
      refine z_iconst hx (n := 1) dX6_most_15 ?_
      refine z_icmp_ne hx (tgt := 24) dX6_most_16 (by decide) h (fun h => ⟨h, by decide⟩) (fun hc h => ?_) (fun hc h => ?_)
      · refine z_iload_n hx 0 dX6_most_24 rfl ?_
        refine z_iconst hx (n := 2) dX6_most_25 ?_
        refine z_icmp_ne hx (tgt := 34) dX6_most_26 (by decide) h (fun h => ⟨h, by decide⟩) (fun hc h => ?_) (fun hc h => ?_)
        · refine z_bipush hx (n := 50) dX6_most_34 rfl ?_
          refine z_sub [] rfl ?_
          exact w_X6_most_b36 hx hn hR hq σ 50 h
        · refine z_bipush hx (n := 20) dX6_most_29 rfl ?_
          refine z_goto hx (tgt := 36) dX6_most_31 (by decide) ?_
          refine z_sub [] rfl ?_
          exact w_X6_most_b36 hx hn hR hq σ 20 h
      · refine z_bipush hx (n := 9) dX6_most_19 rfl ?_
        refine z_goto hx (tgt := 36) dX6_most_21 (by decide) ?_
        refine z_sub [] rfl ?_
        exact w_X6_most_b36 hx hn hR hq σ 9 h
    · refine z_sub [] rfl ?_
      exact w_X6_most_b9 hx hn hR hq σ h

theorem met_X6_most (l : Launch) (g : zG) (hg : g.1 = 1) {σ : zS} {x0 : Int} {rr : Int × zS} (h : f_X6_most σ x0 = some rr) : z_Met l yX6_most cX6_most 1 (some .int) rm_X6_most g [.int (zi x0)] σ (z_QI g rr.1 rr.2) := by
  refine z_enter (own := RX6) (sd := 1) (lv0 := [(0, .int (zi x0))]) (by decide) rfl (Nat.le_of_ble_eq_true rfl) hg rfl (fun C hx hl hgC hR hn hq => ?_)
  subst hgC
  refine z_sub [0] rfl ?_
  exact w_X6_most hx hn hR hq σ x0 h
theorem dX6_set_0 : decode cX6_set 0 = .ok (.iload_n 1, 1) := by decide +kernel
theorem dX6_set_1 : decode cX6_set 1 = .ok (.iconst 0, 1) := by decide +kernel
theorem dX6_set_2 : decode cX6_set 2 = .ok (.bipush 6, 2) := by decide +kernel
theorem dX6_set_4 : decode cX6_set 4 = .ok (.invokestatic 41, 3) := by decide +kernel
theorem dX6_set_7 : decode cX6_set 7 = .ok (.ifCond .eq 24, 3) := by decide +kernel
theorem dX6_set_10 : decode cX6_set 10 = .ok (.iload_n 2, 1) := by decide +kernel
theorem dX6_set_11 : decode cX6_set 11 = .ok (.iconst 0, 1) := by decide +kernel
theorem dX6_set_12 : decode cX6_set 12 = .ok (.iload_n 1, 1) := by decide +kernel
theorem dX6_set_13 : decode cX6_set 13 = .ok (.invokestatic 102, 3) := by decide +kernel
theorem dX6_set_16 : decode cX6_set 16 = .ok (.invokestatic 41, 3) := by decide +kernel
theorem dX6_set_19 : decode cX6_set 19 = .ok (.ifCond .eq 12, 3) := by decide +kernel
theorem dX6_set_22 : decode cX6_set 22 = .ok (.aload_n 0, 1) := by decide +kernel
theorem dX6_set_23 : decode cX6_set 23 = .ok (.iload_n 1, 1) := by decide +kernel
theorem dX6_set_24 : decode cX6_set 24 = .ok (.iload_n 2, 1) := by decide +kernel
theorem dX6_set_25 : decode cX6_set 25 = .ok (.invokevirtual 99, 3) := by decide +kernel
theorem dX6_set_28 : decode cX6_set 28 = .ok (.goto 4, 3) := by decide +kernel
theorem dX6_set_31 : decode cX6_set 31 = .ok (.iconst (-1), 1) := by decide +kernel
theorem dX6_set_32 : decode cX6_set 32 = .ok (.ireturn, 1) := by decide +kernel
abbrev rm_X6_set : Room := { frames := 2, cells := 0, slots := 0, locals := 44 }
theorem w_X6_set_b32 {C : zC} (hx : z_ok C cX6_set RX6 1) (hn : z_nL C = 3) (hR : z_R C = rm_X6_set) {rr : Int × zS} (hq : z_fin C (some .int) (z_QI (z_g C) rr.1 rr.2)) (σ : zS) (s0 : Int) (h : f_X6_set_b32 σ s0 = some rr) : z_W C σ 32 [] [.int (zi s0)] := by
  unfold f_X6_set_b32 at h
  cases h
  exact z_iret hx hq dX6_set_32

theorem w_X6_set_b31 {C : zC} (hx : z_ok C cX6_set RX6 1) (hn : z_nL C = 3) (hR : z_R C = rm_X6_set) {rr : Int × zS} (hq : z_fin C (some .int) (z_QI (z_g C) rr.1 rr.2)) (σ : zS) (h : f_X6_set_b31 σ = some rr) : z_W C σ 31 [] [] := by
  unfold f_X6_set_b31 at h
  refine z_iconst hx (n := (-1)) dX6_set_31 ?_
  refine z_sub [] rfl ?_
  exact w_X6_set_b32 hx hn hR hq σ (-1) h

theorem w_X6_set {C : zC} (hx : z_ok C cX6_set RX6 1) (hn : z_nL C = 3) (hR : z_R C = rm_X6_set) {rr : Int × zS} (hq : z_fin C (some .int) (z_QI (z_g C) rr.1 rr.2)) (σ : zS) (x1 : Int) (x2 : Int) (h : f_X6_set σ x1 x2 = some rr) : z_W C σ 0 [(0, .ref (z_ad (z_g C) 0)), (1, .int (zi x1)), (2, .int (zi x2))] [] := by
  unfold f_X6_set at h
  refine z_iload_n hx 1 dX6_set_0 rfl ?_
  refine z_iconst hx (n := 0) dX6_set_1 ?_
  refine z_bipush hx (n := 6) dX6_set_2 rfl ?_
  obtain ⟨r2, σ1, h4, h⟩ := z_bind_some h
  refine z_calls hx (As := [.int (zi x1), .int (zi 0), .int (zi 6)]) (met_X6_in (z_l C) (z_g C) (z_ok_sd hx) h4) cv_X6_41 (z_room hR ⟨Nat.le_of_ble_eq_true rfl, Nat.le_of_ble_eq_true rfl⟩) ⟨rfl, rfl⟩ rfl rfl (Nat.le_of_ble_eq_true rfl) dX6_set_4 ?_
  refine z_if_eq hx (tgt := 31) dX6_set_7 (by decide) h (fun h => h) (fun hc h => ?_) (fun hc h => ?_)
  · refine z_sub [] rfl ?_
    exact w_X6_set_b31 hx hn hR hq σ1 h
  · refine z_iload_n hx 2 dX6_set_10 rfl ?_
    refine z_iconst hx (n := 0) dX6_set_11 ?_
    refine z_iload_n hx 1 dX6_set_12 rfl ?_
    obtain ⟨r4, σ3, h13, h⟩ := z_bind_some h
    refine z_calls hx (As := [.int (zi x1)]) (met_X6_most (z_l C) (z_g C) (z_ok_sd hx) h13) cv_X6_102 (z_room hR ⟨Nat.le_of_ble_eq_true rfl, Nat.le_of_ble_eq_true rfl⟩) ⟨rfl, rfl⟩ rfl rfl (Nat.le_of_ble_eq_true rfl) dX6_set_13 ?_
    obtain ⟨r6, σ5, h16, h⟩ := z_bind_some h
    refine z_calls hx (As := [.int (zi x2), .int (zi 0), .int (zi r4)]) (met_X6_in (z_l C) (z_g C) (z_ok_sd hx) h16) cv_X6_41 (z_room hR ⟨Nat.le_of_ble_eq_true rfl, Nat.le_of_ble_eq_true rfl⟩) ⟨rfl, rfl⟩ rfl rfl (Nat.le_of_ble_eq_true rfl) dX6_set_16 ?_
    refine z_if_eq hx (tgt := 31) dX6_set_19 (by decide) h (fun h => h) (fun hc h => ?_) (fun hc h => ?_)
    · refine z_sub [] rfl ?_
      exact w_X6_set_b31 hx hn hR hq σ5 h
    · refine z_aload_n hx 0 dX6_set_22 rfl ?_
      refine z_iload_n hx 1 dX6_set_23 rfl ?_
      refine z_iload_n hx 2 dX6_set_24 rfl ?_
      obtain ⟨r8, σ7, h25, h⟩ := z_bind_some h
      refine z_calli hx (As := [.int (zi x1), .int (zi x2)]) (k := 0) (met_X6_sets (z_l C) (z_g C) (z_ok_sd hx) h25) (z_lt1 (z_ok_sd hx) (by decide)) (z_kc0 (z_ok_sd hx) _) rfl rfl cv_X6_99 (z_room hR ⟨Nat.le_of_ble_eq_true rfl, Nat.le_of_ble_eq_true rfl⟩) ⟨rfl, rfl⟩ rfl rfl (Nat.le_of_ble_eq_true rfl) dX6_set_25 ?_
      refine z_goto hx (tgt := 32) dX6_set_28 (by decide) ?_
      refine z_sub [] rfl ?_
      exact w_X6_set_b32 hx hn hR hq σ7 r8 h

theorem met_X6_set (l : Launch) (g : zG) (hg : g.1 = 1) {σ : zS} {x1 : Int} {x2 : Int} {rr : Int × zS} (h : f_X6_set σ x1 x2 = some rr) : z_Met l yX6_set cX6_set 3 (some .int) rm_X6_set g [.ref (z_ad (g) 0), .int (zi x1), .int (zi x2)] σ (z_QI g rr.1 rr.2) := by
  refine z_enter (own := RX6) (sd := 1) (lv0 := [(0, .ref (z_ad (g) 0)), (1, .int (zi x1)), (2, .int (zi x2))]) (by decide) rfl (Nat.le_of_ble_eq_true rfl) hg rfl (fun C hx hl hgC hR hn hq => ?_)
  subst hgC
  refine z_sub [0, 1, 2] rfl ?_
  exact w_X6_set hx hn hR hq σ x1 x2 h
theorem dX6_setting_0 : decode cX6_setting 0 = .ok (.iload_n 1, 1) := by decide +kernel
theorem dX6_setting_1 : decode cX6_setting 1 = .ok (.iconst 0, 1) := by decide +kernel
theorem dX6_setting_2 : decode cX6_setting 2 = .ok (.bipush 8, 2) := by decide +kernel
theorem dX6_setting_4 : decode cX6_setting 4 = .ok (.invokestatic 41, 3) := by decide +kernel
theorem dX6_setting_7 : decode cX6_setting 7 = .ok (.ifCond .eq 12, 3) := by decide +kernel
theorem dX6_setting_10 : decode cX6_setting 10 = .ok (.aload_n 0, 1) := by decide +kernel
theorem dX6_setting_11 : decode cX6_setting 11 = .ok (.getfield 7, 3) := by decide +kernel
theorem dX6_setting_14 : decode cX6_setting 14 = .ok (.iload_n 1, 1) := by decide +kernel
theorem dX6_setting_15 : decode cX6_setting 15 = .ok (.iaload, 1) := by decide +kernel
theorem dX6_setting_16 : decode cX6_setting 16 = .ok (.goto 4, 3) := by decide +kernel
theorem dX6_setting_19 : decode cX6_setting 19 = .ok (.iconst (-1), 1) := by decide +kernel
theorem dX6_setting_20 : decode cX6_setting 20 = .ok (.ireturn, 1) := by decide +kernel
abbrev rm_X6_setting : Room := { frames := 1, cells := 0, slots := 0, locals := 22 }
theorem w_X6_setting_b20 {C : zC} (hx : z_ok C cX6_setting RX6 1) (hn : z_nL C = 2) (hR : z_R C = rm_X6_setting) {rr : Int × zS} (hq : z_fin C (some .int) (z_QI (z_g C) rr.1 rr.2)) (σ : zS) (s0 : Int) (h : f_X6_setting_b20 σ s0 = some rr) : z_W C σ 20 [] [.int (zi s0)] := by
  unfold f_X6_setting_b20 at h
  cases h
  exact z_iret hx hq dX6_setting_20

theorem w_X6_setting {C : zC} (hx : z_ok C cX6_setting RX6 1) (hn : z_nL C = 2) (hR : z_R C = rm_X6_setting) {rr : Int × zS} (hq : z_fin C (some .int) (z_QI (z_g C) rr.1 rr.2)) (σ : zS) (x1 : Int) (h : f_X6_setting σ x1 = some rr) : z_W C σ 0 [(0, .ref (z_ad (z_g C) 0)), (1, .int (zi x1))] [] := by
  unfold f_X6_setting at h
  refine z_iload_n hx 1 dX6_setting_0 rfl ?_
  refine z_iconst hx (n := 0) dX6_setting_1 ?_
  refine z_bipush hx (n := 8) dX6_setting_2 rfl ?_
  obtain ⟨r2, σ1, h4, h⟩ := z_bind_some h
  refine z_calls hx (As := [.int (zi x1), .int (zi 0), .int (zi 8)]) (met_X6_in (z_l C) (z_g C) (z_ok_sd hx) h4) cv_X6_41 (z_room hR ⟨Nat.le_of_ble_eq_true rfl, Nat.le_of_ble_eq_true rfl⟩) ⟨rfl, rfl⟩ rfl rfl (Nat.le_of_ble_eq_true rfl) dX6_setting_4 ?_
  refine z_if_eq hx (tgt := 19) dX6_setting_7 (by decide) h (fun h => h) (fun hc h => ?_) (fun hc h => ?_)
  · refine z_iconst hx (n := (-1)) dX6_setting_19 ?_
    refine z_sub [] rfl ?_
    exact w_X6_setting_b20 hx hn hR hq σ1 (-1) h
  · refine z_aload_n hx 0 dX6_setting_10 rfl ?_
    refine gf_X6_v hx wf_X6_7 dX6_setting_11 ?_
    refine z_iload_n hx 1 dX6_setting_14 rfl ?_
    refine z_iald hx (n := 320) (z_lt1 (z_ok_sd hx) (by decide)) (z_kc1 (z_ok_sd hx) _) rfl (by decide) dX6_setting_15 h (fun h => ?_)
    refine z_goto hx (tgt := 20) dX6_setting_16 (by decide) ?_
    refine z_sub [] rfl ?_
    exact w_X6_setting_b20 hx hn hR hq σ1 (σ1 1 x1) h

theorem met_X6_setting (l : Launch) (g : zG) (hg : g.1 = 1) {σ : zS} {x1 : Int} {rr : Int × zS} (h : f_X6_setting σ x1 = some rr) : z_Met l yX6_setting cX6_setting 2 (some .int) rm_X6_setting g [.ref (z_ad (g) 0), .int (zi x1)] σ (z_QI g rr.1 rr.2) := by
  refine z_enter (own := RX6) (sd := 1) (lv0 := [(0, .ref (z_ad (g) 0)), (1, .int (zi x1))]) (by decide) rfl (Nat.le_of_ble_eq_true rfl) hg rfl (fun C hx hl hgC hR hn hq => ?_)
  subst hgC
  refine z_sub [0, 1] rfl ?_
  exact w_X6_setting hx hn hR hq σ x1 h
