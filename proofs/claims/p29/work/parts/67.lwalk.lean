/-! the law's walks, by program: law -/
theorem w_L_law_b757 {C : zC} {E : yE} (hx : y_ok C cL_law RL E) (hn : z_nL C = 13) (hR : z_R C = room_1) {rr : Unit × zS} (hq : ∀ (pc : Nat), decode cL_law pc = .ok (.ireturn, 1) → ∀ (σ : zS) (d : Drawn), y_dr C d → ∀ lv, z_W (y_D C d) σ pc lv [.int (zi 1)]) {K567 : zS → Int → Option (Unit × zS)} (hK567 : ∀ (σ : zS) (x4 : Int) , K567 σ x4 = some rr → y_W C σ 567 [(0, .ref (e_b E)), (1, .ref (z_ad (z_g C) 62)), (4, .int (zi x4))] []) (σ : zS) (x4 : Int) (h : f_L_law_b757 E K567 σ x4 = some rr) : y_W C σ 757 [(0, .ref (e_b E)), (1, .ref (z_ad (z_g C) 62)), (4, .int (zi x4))] [] := by
  intro d hd
  unfold f_L_law_b757 at h
  refine z_iinc (hx.1 d) hn 2 (lv' := [(4, .int (zi (x4 + 1))), (0, .ref (e_b E)), (1, .ref (z_ad (z_g C) 62))]) dL_law_757 rfl (by decide) rfl ?_
  refine z_goto (hx.1 d) (tgt := 567) dL_law_760 (by decide) ?_
  refine z_sub [1, 2, 0] rfl ?_
  exact hK567 σ (x4 + 1) h d hd

theorem w_L_law_b755 {C : zC} {E : yE} (hx : y_ok C cL_law RL E) (hn : z_nL C = 13) (hR : z_R C = room_1) {rr : Unit × zS} (hq : ∀ (pc : Nat), decode cL_law pc = .ok (.ireturn, 1) → ∀ (σ : zS) (d : Drawn), y_dr C d → ∀ lv, z_W (y_D C d) σ pc lv [.int (zi 1)]) (σ : zS) (h : f_L_law_b755 E σ = some rr) : y_W C σ 755 [] [] := by
  intro d hd
  unfold f_L_law_b755 at h
  refine z_iconst (hx.1 d) (n := 0) dL_law_755 ?_
  cases h

theorem w_L_law_b747 {C : zC} {E : yE} (hx : y_ok C cL_law RL E) (hn : z_nL C = 13) (hR : z_R C = room_1) {rr : Unit × zS} (hq : ∀ (pc : Nat), decode cL_law pc = .ok (.ireturn, 1) → ∀ (σ : zS) (d : Drawn), y_dr C d → ∀ lv, z_W (y_D C d) σ pc lv [.int (zi 1)]) {K567 : zS → Int → Option (Unit × zS)} (hK567 : ∀ (σ : zS) (x4 : Int) , K567 σ x4 = some rr → y_W C σ 567 [(0, .ref (e_b E)), (1, .ref (z_ad (z_g C) 62)), (4, .int (zi x4))] []) (σ : zS) (x4 : Int) (x8 : Int) (s1 : Int) (s2 : Int) (h : f_L_law_b747 E K567 σ x4 x8 s1 s2 = some rr) : y_W C σ 747 [(0, .ref (e_b E)), (1, .ref (z_ad (z_g C) 62)), (4, .int (zi x4)), (8, .int (zi x8))] [.int (zi s2), .int (zi s1), .ref (z_ad (z_g C) 62)] := by
  intro d hd
  unfold f_L_law_b747 at h
  obtain ⟨r2, σ1, h747, h⟩ := z_bind_some h
  refine z_calli (hx.1 d) (As := [.int (zi s1), .int (zi s2)]) (k := 62) (met_X5_hold (z_l C) (z_g C) (y_sd hx) h747) (z_lt0 (z_ok_sd (hx.1 d)) (by decide)) (z_kb62 (z_ok_sd (hx.1 d)) _) rfl rfl cv_L_33 (z_room hR ⟨Nat.le_of_ble_eq_true rfl, Nat.le_of_ble_eq_true rfl⟩) ⟨rfl, rfl⟩ rfl rfl (Nat.le_of_ble_eq_true rfl) dL_law_747 ?_
  refine z_iload (hx.1 d) 3 dL_law_750 rfl ?_
  refine z_icmp_eq (hx.1 d) (tgt := 757) dL_law_752 (by decide) h (fun h => h) (fun hc h => ?_) (fun hc h => ?_)
  · refine z_sub [0, 1, 2] rfl ?_
    exact w_L_law_b757 hx hn hR hq hK567 σ1 x4 h d hd
  · refine z_sub [] rfl ?_
    exact w_L_law_b755 hx hn hR hq σ1 h d hd

theorem w_L_law_b707 {C : zC} {E : yE} (hx : y_ok C cL_law RL E) (hn : z_nL C = 13) (hR : z_R C = room_1) {rr : Unit × zS} (hq : ∀ (pc : Nat), decode cL_law pc = .ok (.ireturn, 1) → ∀ (σ : zS) (d : Drawn), y_dr C d → ∀ lv, z_W (y_D C d) σ pc lv [.int (zi 1)]) (σ : zS) (h : f_L_law_b707 E σ = some rr) : y_W C σ 707 [] [] := by
  intro d hd
  unfold f_L_law_b707 at h
  refine z_iconst (hx.1 d) (n := 0) dL_law_707 ?_
  cases h

theorem w_L_law_b675 {C : zC} {E : yE} (hx : y_ok C cL_law RL E) (hn : z_nL C = 13) (hR : z_R C = room_1) {rr : Unit × zS} (hq : ∀ (pc : Nat), decode cL_law pc = .ok (.ireturn, 1) → ∀ (σ : zS) (d : Drawn), y_dr C d → ∀ lv, z_W (y_D C d) σ pc lv [.int (zi 1)]) {K567 : zS → Int → Option (Unit × zS)} (hK567 : ∀ (σ : zS) (x4 : Int) , K567 σ x4 = some rr → y_W C σ 567 [(0, .ref (e_b E)), (1, .ref (z_ad (z_g C) 62)), (4, .int (zi x4))] []) (σ : zS) (x4 : Int) (x5 : Int) (x6 : Int) (x7 : Int) (x8 : Int) (y9 : Int) (s1 : Int) (s2 : Int) (h : f_L_law_b675 E K567 σ x4 x5 x6 x7 x8 y9 s1 s2 = some rr) : y_W C σ 675 [(0, .ref (e_b E)), (1, .ref (z_ad (z_g C) 62)), (4, .int (zi x4)), (5, .int (zi x5)), (6, .int (zi x6)), (7, .int (zi x7)), (8, .int (zi x8)), (9, .long (zl y9))] [.int (zi s2), .int (zi s1), .ref (z_ad (z_g C) 62)] := by
  intro d hd
  unfold f_L_law_b675 at h
  obtain ⟨r2, σ1, h675, h⟩ := z_bind_some h
  refine z_calli (hx.1 d) (As := [.int (zi s1), .int (zi s2)]) (k := 62) (met_X5_hold (z_l C) (z_g C) (y_sd hx) h675) (z_lt0 (z_ok_sd (hx.1 d)) (by decide)) (z_kb62 (z_ok_sd (hx.1 d)) _) rfl rfl cv_L_33 (z_room hR ⟨Nat.le_of_ble_eq_true rfl, Nat.le_of_ble_eq_true rfl⟩) ⟨rfl, rfl⟩ rfl rfl (Nat.le_of_ble_eq_true rfl) dL_law_675 ?_
  refine z_iload (hx.1 d) 6 dL_law_678 rfl ?_
  refine z_icmp_ne (hx.1 d) (tgt := 707) dL_law_680 (by decide) h (fun h => h) (fun hc h => ?_) (fun hc h => ?_)
  · refine z_sub [] rfl ?_
    exact w_L_law_b707 hx hn hR hq σ1 h d hd
  · refine z_aload_n (hx.1 d) 1 dL_law_683 rfl ?_
    obtain ⟨r4, σ3, h684, h⟩ := z_bind_some h
    refine y_calls hx hd (As := [.ref (z_ad (z_g C) 62)]) (met_L_cuts (z_l C) (z_g C) E (y_sd hx) h684) cv_L_104 (z_room hR ⟨Nat.le_of_ble_eq_true rfl, Nat.le_of_ble_eq_true rfl⟩) ⟨rfl, rfl⟩ rfl rfl (Nat.le_of_ble_eq_true rfl) dL_law_684 (fun d hd => ?_)
    refine z_if_eq (hx.1 d) (tgt := 707) dL_law_687 (by decide) h (fun h => h) (fun hc h => ?_) (fun hc h => ?_)
    · refine z_sub [] rfl ?_
      exact w_L_law_b707 hx hn hR hq σ3 h d hd
    · refine z_aload_n (hx.1 d) 1 dL_law_690 rfl ?_
      obtain ⟨r6, σ5, h691, h⟩ := z_bind_some h
      refine z_calli (hx.1 d) (As := []) (k := 62) (met_X5_undo (z_l C) (z_g C) (y_sd hx) h691) (z_lt0 (z_ok_sd (hx.1 d)) (by decide)) (z_kb62 (z_ok_sd (hx.1 d)) _) rfl rfl cv_L_74 (z_room hR ⟨Nat.le_of_ble_eq_true rfl, Nat.le_of_ble_eq_true rfl⟩) ⟨rfl, rfl⟩ rfl rfl (Nat.le_of_ble_eq_true rfl) dL_law_691 ?_
      refine z_if_lt (hx.1 d) (tgt := 707) dL_law_694 (by decide) h (fun h => h) (fun hc h => ?_) (fun hc h => ?_)
      · refine z_sub [] rfl ?_
        exact w_L_law_b707 hx hn hR hq σ5 h d hd
      · refine z_aload_n (hx.1 d) 1 dL_law_697 rfl ?_
        obtain ⟨r8, σ7, h698, h⟩ := z_bind_some h
        refine z_calll (hx.1 d) (As := []) (k := 62) (met_X5_fingerprint (z_l C) (z_g C) (y_sd hx) h698) (z_lt0 (z_ok_sd (hx.1 d)) (by decide)) (z_kb62 (z_ok_sd (hx.1 d)) _) rfl rfl cv_L_9 (z_room hR ⟨Nat.le_of_ble_eq_true rfl, Nat.le_of_ble_eq_true rfl⟩) ⟨rfl, rfl⟩ rfl rfl (Nat.le_of_ble_eq_true rfl) dL_law_698 ?_
        refine z_lload (hx.1 d) 7 dL_law_701 rfl ?_
        refine y_lcmp (hx.1 d) dL_law_703 h (fun h => ?_)
        refine z_if_eq (hx.1 d) (tgt := 709) dL_law_704 (by decide) h (fun h => h) (fun hc h => ?_) (fun hc h => ?_)
        · refine z_iload (hx.1 d) 4 dL_law_709 rfl ?_
          refine z_sipush (hx.1 d) (n := 512) dL_law_711 rfl ?_
          refine y_iand (hx.1 d) dL_law_714 ?_
          refine z_if_eq (hx.1 d) (tgt := 734) dL_law_715 (by decide) h (fun h => h) (fun hc h => ?_) (fun hc h => ?_)
          · refine z_aload_n (hx.1 d) 1 dL_law_734 rfl ?_
            refine z_iload (hx.1 d) 5 dL_law_735 rfl ?_
            refine z_iload (hx.1 d) 6 dL_law_737 rfl ?_
            refine z_if_ne (hx.1 d) (tgt := 746) dL_law_739 (by decide) h (fun h => h) (fun hc h => ?_) (fun hc h => ?_)
            · refine z_iconst (hx.1 d) (n := 0) dL_law_746 ?_
              refine z_sub [0, 1, 2, 6] rfl ?_
              exact w_L_law_b747 hx hn hR hq hK567 σ7 x4 x8 x7 0 h d hd
            · refine z_iconst (hx.1 d) (n := 1) dL_law_742 ?_
              refine z_goto (hx.1 d) (tgt := 747) dL_law_743 (by decide) ?_
              refine z_sub [0, 1, 2, 6] rfl ?_
              exact w_L_law_b747 hx hn hR hq hK567 σ7 x4 x8 x7 1 h d hd
          · refine z_aload_n (hx.1 d) 1 dL_law_718 rfl ?_
            refine z_iload (hx.1 d) 5 dL_law_719 rfl ?_
            obtain ⟨r10, σ9, h721, h⟩ := z_bind_some h
            refine z_calli (hx.1 d) (As := [.int (zi x7)]) (k := 62) (met_X5_unmark (z_l C) (z_g C) (y_sd hx) h721) (z_lt0 (z_ok_sd (hx.1 d)) (by decide)) (z_kb62 (z_ok_sd (hx.1 d)) _) rfl rfl cv_L_30 (z_room hR ⟨Nat.le_of_ble_eq_true rfl, Nat.le_of_ble_eq_true rfl⟩) ⟨rfl, rfl⟩ rfl rfl (Nat.le_of_ble_eq_true rfl) dL_law_721 ?_
            refine z_iload (hx.1 d) 3 dL_law_724 rfl ?_
            refine z_iconst (hx.1 d) (n := 1) dL_law_726 ?_
            refine z_isub (hx.1 d) dL_law_727 ?_
            refine z_icmp_eq (hx.1 d) (tgt := 757) dL_law_728 (by decide) h (fun h => h) (fun hc h => ?_) (fun hc h => ?_)
            · refine z_sub [0, 1, 2] rfl ?_
              exact w_L_law_b757 hx hn hR hq hK567 σ9 x4 h d hd
            · refine z_goto (hx.1 d) (tgt := 755) dL_law_731 (by decide) ?_
              refine z_sub [] rfl ?_
              exact w_L_law_b755 hx hn hR hq σ9 h d hd
        · refine z_sub [] rfl ?_
          exact w_L_law_b707 hx hn hR hq σ7 h d hd

theorem w_L_law_b608 {C : zC} {E : yE} (hx : y_ok C cL_law RL E) (hn : z_nL C = 13) (hR : z_R C = room_1) {rr : Unit × zS} (hq : ∀ (pc : Nat), decode cL_law pc = .ok (.ireturn, 1) → ∀ (σ : zS) (d : Drawn), y_dr C d → ∀ lv, z_W (y_D C d) σ pc lv [.int (zi 1)]) (σ : zS) (h : f_L_law_b608 E σ = some rr) : y_W C σ 608 [] [] := by
  intro d hd
  unfold f_L_law_b608 at h
  refine z_iconst (hx.1 d) (n := 0) dL_law_608 ?_
  cases h

theorem w_L_law_b567 {C : zC} {E : yE} (hx : y_ok C cL_law RL E) (hn : z_nL C = 13) (hR : z_R C = room_1) {rr : Unit × zS} (hq : ∀ (pc : Nat), decode cL_law pc = .ok (.ireturn, 1) → ∀ (σ : zS) (d : Drawn), y_dr C d → ∀ lv, z_W (y_D C d) σ pc lv [.int (zi 1)]) {K567 : zS → Int → Option (Unit × zS)} (hK567 : ∀ (σ : zS) (x4 : Int) , K567 σ x4 = some rr → y_W C σ 567 [(0, .ref (e_b E)), (1, .ref (z_ad (z_g C) 62)), (4, .int (zi x4))] []) (σ : zS) (x4 : Int) (h : f_L_law_b567 E K567 σ x4 = some rr) : y_W C σ 567 [(0, .ref (e_b E)), (1, .ref (z_ad (z_g C) 62)), (4, .int (zi x4))] [] := by
  intro d hd
  unfold f_L_law_b567 at h
  refine z_iload (hx.1 d) 2 dL_law_567 rfl ?_
  refine z_iconst (hx.1 d) (n := 4) dL_law_569 ?_
  refine z_icmp_ge (hx.1 d) (tgt := 763) dL_law_570 (by decide) h (fun h => ⟨h, by decide⟩) (fun hc h => ?_) (fun hc h => ?_)
  · refine z_aload_n (hx.1 d) 1 dL_law_763 rfl ?_
    obtain ⟨r2, σ1, h764, h⟩ := z_bind_some h
    refine y_calls hx hd (As := [.ref (z_ad (z_g C) 62)]) (met_L_fails (z_l C) (z_g C) E (y_sd hx) h764) cv_L_91 (z_room hR ⟨Nat.le_of_ble_eq_true rfl, Nat.le_of_ble_eq_true rfl⟩) ⟨rfl, rfl⟩ rfl rfl (Nat.le_of_ble_eq_true rfl) dL_law_764 (fun d hd => ?_)
    obtain ⟨hz, h⟩ := z_gd h
    cases h
    rw [hz]
    exact hq _ dL_law_767 _ d hd _
  · refine z_aload_n (hx.1 d) 1 dL_law_573 rfl ?_
    obtain ⟨r4, σ3, h574, h⟩ := z_bind_some h
    refine y_calls hx hd (As := [.ref (z_ad (z_g C) 62)]) (met_L_cuts (z_l C) (z_g C) E (y_sd hx) h574) cv_L_104 (z_room hR ⟨Nat.le_of_ble_eq_true rfl, Nat.le_of_ble_eq_true rfl⟩) ⟨rfl, rfl⟩ rfl rfl (Nat.le_of_ble_eq_true rfl) dL_law_574 (fun d hd => ?_)
    refine z_if_eq (hx.1 d) (tgt := 608) dL_law_577 (by decide) h (fun h => h) (fun hc h => ?_) (fun hc h => ?_)
    · refine z_sub [] rfl ?_
      exact w_L_law_b608 hx hn hR hq σ3 h d hd
    · refine z_aload_n (hx.1 d) 1 dL_law_580 rfl ?_
      obtain ⟨r6, σ5, h581, h⟩ := z_bind_some h
      refine y_calls hx hd (As := [.ref (z_ad (z_g C) 62)]) (met_L_result (z_l C) (z_g C) E (y_sd hx) h581) cv_L_106 (z_room hR ⟨Nat.le_of_ble_eq_true rfl, Nat.le_of_ble_eq_true rfl⟩) ⟨rfl, rfl⟩ rfl rfl (Nat.le_of_ble_eq_true rfl) dL_law_581 (fun d hd => ?_)
      refine z_if_eq (hx.1 d) (tgt := 608) dL_law_584 (by decide) h (fun h => h) (fun hc h => ?_) (fun hc h => ?_)
      · refine z_sub [] rfl ?_
        exact w_L_law_b608 hx hn hR hq σ5 h d hd
      · refine z_aload_n (hx.1 d) 1 dL_law_587 rfl ?_
        refine z_aload_n (hx.1 d) 0 dL_law_588 rfl ?_
        refine z_bipush (hx.1 d) (n := 20) dL_law_589 rfl ?_
        refine z_iload (hx.1 d) 2 dL_law_591 rfl ?_
        refine z_iadd (hx.1 d) dL_law_593 ?_
        obtain ⟨r8, σ7, h594, h⟩ := z_bind_some h
        refine y_calls hx hd (As := [.ref (e_b E), .int (zi (20 + x4))]) (met_L_cell (z_l C) (z_g C) E (y_sd hx) h594) cv_L_97 (z_room hR ⟨Nat.le_of_ble_eq_true rfl, Nat.le_of_ble_eq_true rfl⟩) ⟨rfl, rfl⟩ rfl rfl (Nat.le_of_ble_eq_true rfl) dL_law_594 (fun d hd => ?_)
        refine z_bipush (hx.1 d) (n := 60) dL_law_597 rfl ?_
        obtain ⟨r10, σ9, h599, h⟩ := z_bind_some h
        refine y_calls hx hd (As := [.int (zi r8), .int (zi 60)]) (met_L_up (z_l C) (z_g C) E (y_sd hx) h599) cv_L_101 (z_room hR ⟨Nat.le_of_ble_eq_true rfl, Nat.le_of_ble_eq_true rfl⟩) ⟨rfl, rfl⟩ rfl rfl (Nat.le_of_ble_eq_true rfl) dL_law_599 (fun d hd => ?_)
        obtain ⟨r12, σ11, h602, h⟩ := z_bind_some h
        refine y_calls hx hd (As := [.ref (z_ad (z_g C) 62), .int (zi r10)]) (met_L_asks (z_l C) (z_g C) E (y_sd hx) h602) cv_L_109 (z_room hR ⟨Nat.le_of_ble_eq_true rfl, Nat.le_of_ble_eq_true rfl⟩) ⟨rfl, rfl⟩ rfl rfl (Nat.le_of_ble_eq_true rfl) dL_law_602 (fun d hd => ?_)
        refine z_if_ne (hx.1 d) (tgt := 610) dL_law_605 (by decide) h (fun h => h) (fun hc h => ?_) (fun hc h => ?_)
        · refine z_aload_n (hx.1 d) 1 dL_law_610 rfl ?_
          refine z_bipush (hx.1 d) (n := 8) dL_law_611 rfl ?_
          obtain ⟨r14, σ13, h613, h⟩ := z_bind_some h
          refine z_calli (hx.1 d) (As := [.int (zi 8)]) (k := 62) (met_X5_setting (z_l C) (z_g C) (y_sd hx) h613) (z_lt0 (z_ok_sd (hx.1 d)) (by decide)) (z_kb62 (z_ok_sd (hx.1 d)) _) rfl rfl cv_L_15 (z_room hR ⟨Nat.le_of_ble_eq_true rfl, Nat.le_of_ble_eq_true rfl⟩) ⟨rfl, rfl⟩ rfl rfl (Nat.le_of_ble_eq_true rfl) dL_law_613 ?_
          refine z_istore (hx.1 d) hn (lv' := [(5, .int (zi r14)), (0, .ref (e_b E)), (1, .ref (z_ad (z_g C) 62)), (4, .int (zi x4))]) dL_law_616 (by decide) rfl ?_
          refine z_aload_n (hx.1 d) 1 dL_law_618 rfl ?_
          refine z_bipush (hx.1 d) (n := 24) dL_law_619 rfl ?_
          refine z_iload (hx.1 d) 3 dL_law_621 rfl ?_
          refine z_iadd (hx.1 d) dL_law_623 ?_
          obtain ⟨r16, σ15, h624, h⟩ := z_bind_some h
          refine y_calls hx hd (As := [.ref (e_b E), .int (zi (24 + x4))]) (met_L_cell (z_l C) (z_g C) E (y_sd hx) h624) cv_L_97 (z_room hR ⟨Nat.le_of_ble_eq_true rfl, Nat.le_of_ble_eq_true rfl⟩) ⟨rfl, rfl⟩ rfl rfl (Nat.le_of_ble_eq_true rfl) dL_law_624 (fun d hd => ?_)
          refine z_istore (hx.1 d) hn (lv' := [(6, .int (zi r16)), (5, .int (zi r14)), (0, .ref (e_b E)), (1, .ref (z_ad (z_g C) 62)), (4, .int (zi x4))]) dL_law_627 (by decide) rfl ?_
          refine z_iload (hx.1 d) 1 dL_law_629 rfl ?_
          refine z_if_le (hx.1 d) (tgt := 757) dL_law_631 (by decide) h (fun h => h) (fun hc h => ?_) (fun hc h => ?_)
          · refine z_sub [2, 3, 4] rfl ?_
            exact w_L_law_b757 hx hn hR hq hK567 σ15 x4 h d hd
          · refine z_iload (hx.1 d) 0 dL_law_634 rfl ?_
            refine z_iload (hx.1 d) 1 dL_law_636 rfl ?_
            obtain ⟨r18, σ17, h638, h⟩ := z_bind_some h
            refine y_calls hx hd (As := [.int (zi r16), .int (zi r14)]) (met_L_up (z_l C) (z_g C) E (y_sd hx) h638) cv_L_101 (z_room hR ⟨Nat.le_of_ble_eq_true rfl, Nat.le_of_ble_eq_true rfl⟩) ⟨rfl, rfl⟩ rfl rfl (Nat.le_of_ble_eq_true rfl) dL_law_638 (fun d hd => ?_)
            refine z_istore (hx.1 d) hn (lv' := [(7, .int (zi r18)), (6, .int (zi r16)), (5, .int (zi r14)), (0, .ref (e_b E)), (1, .ref (z_ad (z_g C) 62)), (4, .int (zi x4))]) dL_law_641 (by decide) rfl ?_
            refine z_aload_n (hx.1 d) 4 dL_law_643 rfl ?_
            refine z_iload (hx.1 d) 0 dL_law_644 rfl ?_
            refine z_iconst (hx.1 d) (n := 4) dL_law_646 ?_
            obtain ⟨r20, σ19, h647, h⟩ := z_bind_some h
            refine z_calli (hx.1 d) (As := [.int (zi r18), .int (zi 4)]) (k := 62) (met_X5_about (z_l C) (z_g C) (y_sd hx) h647) (z_lt0 (z_ok_sd (hx.1 d)) (by decide)) (z_kb62 (z_ok_sd (hx.1 d)) _) rfl rfl cv_L_40 (z_room hR ⟨Nat.le_of_ble_eq_true rfl, Nat.le_of_ble_eq_true rfl⟩) ⟨rfl, rfl⟩ rfl rfl (Nat.le_of_ble_eq_true rfl) dL_law_647 ?_
            refine z_istore (hx.1 d) hn (lv' := [(8, .int (zi r20)), (7, .int (zi r18)), (6, .int (zi r16)), (5, .int (zi r14)), (0, .ref (e_b E)), (1, .ref (z_ad (z_g C) 62)), (4, .int (zi x4))]) dL_law_650 (by decide) rfl ?_
            refine z_aload_n (hx.1 d) 5 dL_law_652 rfl ?_
            obtain ⟨r22, σ21, h653, h⟩ := z_bind_some h
            refine z_calll (hx.1 d) (As := []) (k := 62) (met_X5_fingerprint (z_l C) (z_g C) (y_sd hx) h653) (z_lt0 (z_ok_sd (hx.1 d)) (by decide)) (z_kb62 (z_ok_sd (hx.1 d)) _) rfl rfl cv_L_9 (z_room hR ⟨Nat.le_of_ble_eq_true rfl, Nat.le_of_ble_eq_true rfl⟩) ⟨rfl, rfl⟩ rfl rfl (Nat.le_of_ble_eq_true rfl) dL_law_653 ?_
            refine z_lstore (hx.1 d) hn (lv' := [(9, .long (zl r22)), (8, .int (zi r20)), (7, .int (zi r18)), (6, .int (zi r16)), (5, .int (zi r14)), (0, .ref (e_b E)), (1, .ref (z_ad (z_g C) 62)), (4, .int (zi x4))]) dL_law_656 (by decide) rfl ?_
            refine z_aload_n (hx.1 d) 6 dL_law_658 rfl ?_
            refine z_iload (hx.1 d) 2 dL_law_659 rfl ?_
            refine z_iload (hx.1 d) 3 dL_law_661 rfl ?_
            refine z_sipush (hx.1 d) (n := 256) dL_law_663 rfl ?_
            refine y_iand (hx.1 d) dL_law_666 ?_
            refine z_if_eq (hx.1 d) (tgt := 674) dL_law_667 (by decide) h (fun h => h) (fun hc h => ?_) (fun hc h => ?_)
            · refine z_iconst (hx.1 d) (n := 0) dL_law_674 ?_
              refine z_sub [5, 6, 7, 4, 3, 2, 1, 0] rfl ?_
              exact w_L_law_b675 hx hn hR hq hK567 σ21 x4 r14 r16 r18 r20 r22 r18 0 h d hd
            · refine z_iconst (hx.1 d) (n := 1) dL_law_670 ?_
              refine z_goto (hx.1 d) (tgt := 675) dL_law_671 (by decide) ?_
              refine z_sub [5, 6, 7, 4, 3, 2, 1, 0] rfl ?_
              exact w_L_law_b675 hx hn hR hq hK567 σ21 x4 r14 r16 r18 r20 r22 r18 1 h d hd
        · refine z_sub [] rfl ?_
          exact w_L_law_b608 hx hn hR hq σ11 h d hd

theorem w_L_law_l567 {C : zC} {E : yE} (hx : y_ok C cL_law RL E) (hn : z_nL C = 13) (hR : z_R C = room_1) {rr : Unit × zS} (hq : ∀ (pc : Nat), decode cL_law pc = .ok (.ireturn, 1) → ∀ (σ : zS) (d : Drawn), y_dr C d → ∀ lv, z_W (y_D C d) σ pc lv [.int (zi 1)]) : ∀ (n : Nat) (σ : zS) (x4 : Int) (_ : f_L_law_l567 E n σ x4 = some rr), y_W C σ 567 [(0, .ref (e_b E)), (1, .ref (z_ad (z_g C) 62)), (4, .int (zi x4))] [] := by
  intro n
  induction n with
  | zero => intro σ x4 h; cases h
  | succ n ih =>
    intro σ x4 h
    exact w_L_law_b567 hx hn hR hq ih σ x4 h
theorem w_L_law_b558 {C : zC} {E : yE} (hx : y_ok C cL_law RL E) (hn : z_nL C = 13) (hR : z_R C = room_1) {rr : Unit × zS} (hq : ∀ (pc : Nat), decode cL_law pc = .ok (.ireturn, 1) → ∀ (σ : zS) (d : Drawn), y_dr C d → ∀ lv, z_W (y_D C d) σ pc lv [.int (zi 1)]) {K317 : zS → Int → Int → Option (Unit × zS)} (hK317 : ∀ (σ : zS) (x3 : Int) (x4 : Int) , K317 σ x3 x4 = some rr → y_W C σ 317 [(0, .ref (e_b E)), (1, .ref (z_ad (z_g C) 62)), (3, .int (zi x3)), (4, .int (zi x4))] []) (σ : zS) (x3 : Int) (x4 : Int) (h : f_L_law_b558 E K317 σ x3 x4 = some rr) : y_W C σ 558 [(0, .ref (e_b E)), (1, .ref (z_ad (z_g C) 62)), (3, .int (zi x3)), (4, .int (zi x4))] [] := by
  intro d hd
  unfold f_L_law_b558 at h
  refine z_iinc (hx.1 d) hn 3 (lv' := [(4, .int (zi (x4 + 1))), (0, .ref (e_b E)), (1, .ref (z_ad (z_g C) 62)), (3, .int (zi x3))]) dL_law_558 rfl (by decide) rfl ?_
  refine z_goto (hx.1 d) (tgt := 317) dL_law_561 (by decide) ?_
  refine z_sub [1, 2, 3, 0] rfl ?_
  exact hK317 σ x3 (x4 + 1) h d hd

theorem w_L_law_b556 {C : zC} {E : yE} (hx : y_ok C cL_law RL E) (hn : z_nL C = 13) (hR : z_R C = room_1) {rr : Unit × zS} (hq : ∀ (pc : Nat), decode cL_law pc = .ok (.ireturn, 1) → ∀ (σ : zS) (d : Drawn), y_dr C d → ∀ lv, z_W (y_D C d) σ pc lv [.int (zi 1)]) (σ : zS) (h : f_L_law_b556 E σ = some rr) : y_W C σ 556 [] [] := by
  intro d hd
  unfold f_L_law_b556 at h
  refine z_iconst (hx.1 d) (n := 0) dL_law_556 ?_
  cases h

theorem w_L_law_b511 {C : zC} {E : yE} (hx : y_ok C cL_law RL E) (hn : z_nL C = 13) (hR : z_R C = room_1) {rr : Unit × zS} (hq : ∀ (pc : Nat), decode cL_law pc = .ok (.ireturn, 1) → ∀ (σ : zS) (d : Drawn), y_dr C d → ∀ lv, z_W (y_D C d) σ pc lv [.int (zi 1)]) {K317 : zS → Int → Int → Option (Unit × zS)} (hK317 : ∀ (σ : zS) (x3 : Int) (x4 : Int) , K317 σ x3 x4 = some rr → y_W C σ 317 [(0, .ref (e_b E)), (1, .ref (z_ad (z_g C) 62)), (3, .int (zi x3)), (4, .int (zi x4))] []) (σ : zS) (x3 : Int) (x4 : Int) (x6 : Int) (x7 : Int) (x8 : Int) (x12 : Int) (s0 : Int) (s1 : Int) (h : f_L_law_b511 E K317 σ x3 x4 x6 x7 x8 x12 s0 s1 = some rr) : y_W C σ 511 [(0, .ref (e_b E)), (1, .ref (z_ad (z_g C) 62)), (3, .int (zi x3)), (4, .int (zi x4)), (6, .int (zi x6)), (7, .int (zi x7)), (8, .int (zi x8)), (12, .int (zi x12))] [.int (zi s1), .int (zi s0)] := by
  intro d hd
  unfold f_L_law_b511 at h
  refine z_icmp_ne (hx.1 d) (tgt := 556) dL_law_511 (by decide) h (fun h => h) (fun hc h => ?_) (fun hc h => ?_)
  · refine z_sub [] rfl ?_
    exact w_L_law_b556 hx hn hR hq σ h d hd
  · refine z_iload (hx.1 d) 7 dL_law_514 rfl ?_
    refine z_if_lt (hx.1 d) (tgt := 558) dL_law_516 (by decide) h (fun h => h) (fun hc h => ?_) (fun hc h => ?_)
    · refine z_sub [0, 1, 2, 3] rfl ?_
      exact w_L_law_b558 hx hn hR hq hK317 σ x3 x4 h d hd
    · refine z_aload_n (hx.1 d) 1 dL_law_519 rfl ?_
      refine z_iload (hx.1 d) 7 dL_law_520 rfl ?_
      refine z_iconst (hx.1 d) (n := 1) dL_law_522 ?_
      obtain ⟨r2, σ1, h523, h⟩ := z_bind_some h
      refine z_calli (hx.1 d) (As := [.int (zi x12), .int (zi 1)]) (k := 62) (met_X5_about (z_l C) (z_g C) (y_sd hx) h523) (z_lt0 (z_ok_sd (hx.1 d)) (by decide)) (z_kb62 (z_ok_sd (hx.1 d)) _) rfl rfl cv_L_40 (z_room hR ⟨Nat.le_of_ble_eq_true rfl, Nat.le_of_ble_eq_true rfl⟩) ⟨rfl, rfl⟩ rfl rfl (Nat.le_of_ble_eq_true rfl) dL_law_523 ?_
      refine z_iload (hx.1 d) 4 dL_law_526 rfl ?_
      refine z_icmp_ne (hx.1 d) (tgt := 556) dL_law_528 (by decide) h (fun h => h) (fun hc h => ?_) (fun hc h => ?_)
      · refine z_sub [] rfl ?_
        exact w_L_law_b556 hx hn hR hq σ1 h d hd
      · refine z_aload_n (hx.1 d) 1 dL_law_531 rfl ?_
        refine z_iload (hx.1 d) 7 dL_law_532 rfl ?_
        refine z_iconst (hx.1 d) (n := 2) dL_law_534 ?_
        obtain ⟨r4, σ3, h535, h⟩ := z_bind_some h
        refine z_calli (hx.1 d) (As := [.int (zi x12), .int (zi 2)]) (k := 62) (met_X5_about (z_l C) (z_g C) (y_sd hx) h535) (z_lt0 (z_ok_sd (hx.1 d)) (by decide)) (z_kb62 (z_ok_sd (hx.1 d)) _) rfl rfl cv_L_40 (z_room hR ⟨Nat.le_of_ble_eq_true rfl, Nat.le_of_ble_eq_true rfl⟩) ⟨rfl, rfl⟩ rfl rfl (Nat.le_of_ble_eq_true rfl) dL_law_535 ?_
        refine z_iload (hx.1 d) 5 dL_law_538 rfl ?_
        refine z_icmp_ne (hx.1 d) (tgt := 556) dL_law_540 (by decide) h (fun h => h) (fun hc h => ?_) (fun hc h => ?_)
        · refine z_sub [] rfl ?_
          exact w_L_law_b556 hx hn hR hq σ3 h d hd
        · refine z_aload_n (hx.1 d) 1 dL_law_543 rfl ?_
          refine z_bipush (hx.1 d) (n := 8) dL_law_544 rfl ?_
          obtain ⟨r6, σ5, h546, h⟩ := z_bind_some h
          refine z_calli (hx.1 d) (As := [.int (zi 8)]) (k := 62) (met_X5_setting (z_l C) (z_g C) (y_sd hx) h546) (z_lt0 (z_ok_sd (hx.1 d)) (by decide)) (z_kb62 (z_ok_sd (hx.1 d)) _) rfl rfl cv_L_15 (z_room hR ⟨Nat.le_of_ble_eq_true rfl, Nat.le_of_ble_eq_true rfl⟩) ⟨rfl, rfl⟩ rfl rfl (Nat.le_of_ble_eq_true rfl) dL_law_546 ?_
          refine z_iload (hx.1 d) 6 dL_law_549 rfl ?_
          refine z_iconst (hx.1 d) (n := 1) dL_law_551 ?_
          refine z_iadd (hx.1 d) dL_law_552 ?_
          refine z_icmp_eq (hx.1 d) (tgt := 558) dL_law_553 (by decide) h (fun h => h) (fun hc h => ?_) (fun hc h => ?_)
          · refine z_sub [0, 1, 2, 3] rfl ?_
            exact w_L_law_b558 hx hn hR hq hK317 σ5 x3 x4 h d hd
          · refine z_sub [] rfl ?_
            exact w_L_law_b556 hx hn hR hq σ5 h d hd

theorem w_L_law_b453 {C : zC} {E : yE} (hx : y_ok C cL_law RL E) (hn : z_nL C = 13) (hR : z_R C = room_1) {rr : Unit × zS} (hq : ∀ (pc : Nat), decode cL_law pc = .ok (.ireturn, 1) → ∀ (σ : zS) (d : Drawn), y_dr C d → ∀ lv, z_W (y_D C d) σ pc lv [.int (zi 1)]) {K317 : zS → Int → Int → Option (Unit × zS)} (hK317 : ∀ (σ : zS) (x3 : Int) (x4 : Int) , K317 σ x3 x4 = some rr → y_W C σ 317 [(0, .ref (e_b E)), (1, .ref (z_ad (z_g C) 62)), (3, .int (zi x3)), (4, .int (zi x4))] []) {K391 : zS → Int → Int → Int → Int → Int → Int → Int → Int → Int → Int → Option (Unit × zS)} (hK391 : ∀ (σ : zS) (x3 : Int) (x4 : Int) (x5 : Int) (x6 : Int) (x7 : Int) (x8 : Int) (x9 : Int) (x10 : Int) (x11 : Int) (x12 : Int) , K391 σ x3 x4 x5 x6 x7 x8 x9 x10 x11 x12 = some rr → y_W C σ 391 [(0, .ref (e_b E)), (1, .ref (z_ad (z_g C) 62)), (3, .int (zi x3)), (4, .int (zi x4)), (5, .int (zi x5)), (6, .int (zi x6)), (7, .int (zi x7)), (8, .int (zi x8)), (9, .int (zi x9)), (10, .int (zi x10)), (11, .int (zi x11)), (12, .int (zi x12))] []) (σ : zS) (x3 : Int) (x4 : Int) (x5 : Int) (x6 : Int) (x7 : Int) (x8 : Int) (x9 : Int) (x10 : Int) (x12 : Int) (s0 : Int) (s1 : Int) (h : f_L_law_b453 E K317 K391 σ x3 x4 x5 x6 x7 x8 x9 x10 x12 s0 s1 = some rr) : y_W C σ 453 [(0, .ref (e_b E)), (1, .ref (z_ad (z_g C) 62)), (3, .int (zi x3)), (4, .int (zi x4)), (5, .int (zi x5)), (6, .int (zi x6)), (7, .int (zi x7)), (8, .int (zi x8)), (9, .int (zi x9)), (10, .int (zi x10)), (12, .int (zi x12))] [.int (zi s1), .int (zi s0)] := by
  intro d hd
  unfold f_L_law_b453 at h
  refine z_iadd (hx.1 d) dL_law_453 ?_
  refine z_istore (hx.1 d) hn (lv' := [(11, .int (zi (s0 + s1))), (0, .ref (e_b E)), (1, .ref (z_ad (z_g C) 62)), (3, .int (zi x3)), (4, .int (zi x4)), (5, .int (zi x5)), (6, .int (zi x6)), (7, .int (zi x7)), (8, .int (zi x8)), (9, .int (zi x9)), (10, .int (zi x10)), (12, .int (zi x12))]) dL_law_454 (by decide) rfl ?_
  refine z_iinc (hx.1 d) hn 11 (lv' := [(12, .int (zi (x12 + 1))), (11, .int (zi (s0 + s1))), (0, .ref (e_b E)), (1, .ref (z_ad (z_g C) 62)), (3, .int (zi x3)), (4, .int (zi x4)), (5, .int (zi x5)), (6, .int (zi x6)), (7, .int (zi x7)), (8, .int (zi x8)), (9, .int (zi x9)), (10, .int (zi x10))]) dL_law_456 rfl (by decide) rfl ?_
  refine z_goto (hx.1 d) (tgt := 391) dL_law_459 (by decide) ?_
  refine z_sub [2, 3, 4, 5, 6, 7, 8, 9, 10, 11, 1, 0] rfl ?_
  exact hK391 σ x3 x4 x5 x6 x7 x8 x9 x10 (s0 + s1) (x12 + 1) h d hd

theorem w_L_law_b432 {C : zC} {E : yE} (hx : y_ok C cL_law RL E) (hn : z_nL C = 13) (hR : z_R C = room_1) {rr : Unit × zS} (hq : ∀ (pc : Nat), decode cL_law pc = .ok (.ireturn, 1) → ∀ (σ : zS) (d : Drawn), y_dr C d → ∀ lv, z_W (y_D C d) σ pc lv [.int (zi 1)]) {K317 : zS → Int → Int → Option (Unit × zS)} (hK317 : ∀ (σ : zS) (x3 : Int) (x4 : Int) , K317 σ x3 x4 = some rr → y_W C σ 317 [(0, .ref (e_b E)), (1, .ref (z_ad (z_g C) 62)), (3, .int (zi x3)), (4, .int (zi x4))] []) {K391 : zS → Int → Int → Int → Int → Int → Int → Int → Int → Int → Int → Option (Unit × zS)} (hK391 : ∀ (σ : zS) (x3 : Int) (x4 : Int) (x5 : Int) (x6 : Int) (x7 : Int) (x8 : Int) (x9 : Int) (x10 : Int) (x11 : Int) (x12 : Int) , K391 σ x3 x4 x5 x6 x7 x8 x9 x10 x11 x12 = some rr → y_W C σ 391 [(0, .ref (e_b E)), (1, .ref (z_ad (z_g C) 62)), (3, .int (zi x3)), (4, .int (zi x4)), (5, .int (zi x5)), (6, .int (zi x6)), (7, .int (zi x7)), (8, .int (zi x8)), (9, .int (zi x9)), (10, .int (zi x10)), (11, .int (zi x11)), (12, .int (zi x12))] []) (σ : zS) (x3 : Int) (x4 : Int) (x5 : Int) (x6 : Int) (x7 : Int) (x8 : Int) (x9 : Int) (x11 : Int) (x12 : Int) (s0 : Int) (h : f_L_law_b432 E K317 K391 σ x3 x4 x5 x6 x7 x8 x9 x11 x12 s0 = some rr) : y_W C σ 432 [(0, .ref (e_b E)), (1, .ref (z_ad (z_g C) 62)), (3, .int (zi x3)), (4, .int (zi x4)), (5, .int (zi x5)), (6, .int (zi x6)), (7, .int (zi x7)), (8, .int (zi x8)), (9, .int (zi x9)), (11, .int (zi x11)), (12, .int (zi x12))] [.int (zi s0)] := by
  intro d hd
  unfold f_L_law_b432 at h
  refine z_istore (hx.1 d) hn (lv' := [(10, .int (zi s0)), (0, .ref (e_b E)), (1, .ref (z_ad (z_g C) 62)), (3, .int (zi x3)), (4, .int (zi x4)), (5, .int (zi x5)), (6, .int (zi x6)), (7, .int (zi x7)), (8, .int (zi x8)), (9, .int (zi x9)), (11, .int (zi x11)), (12, .int (zi x12))]) dL_law_432 (by decide) rfl ?_
  refine z_iload (hx.1 d) 10 dL_law_434 rfl ?_
  refine z_aload_n (hx.1 d) 2 dL_law_436 rfl ?_
  refine z_iload (hx.1 d) 11 dL_law_437 rfl ?_
  refine z_iconst (hx.1 d) (n := 1) dL_law_439 ?_
  obtain ⟨r2, σ1, h440, h⟩ := z_bind_some h
  refine z_calli (hx.1 d) (As := [.int (zi x12), .int (zi 1)]) (k := 62) (met_X5_about (z_l C) (z_g C) (y_sd hx) h440) (z_lt0 (z_ok_sd (hx.1 d)) (by decide)) (z_kb62 (z_ok_sd (hx.1 d)) _) rfl rfl cv_L_40 (z_room hR ⟨Nat.le_of_ble_eq_true rfl, Nat.le_of_ble_eq_true rfl⟩) ⟨rfl, rfl⟩ rfl rfl (Nat.le_of_ble_eq_true rfl) dL_law_440 ?_
  refine z_iload (hx.1 d) 6 dL_law_443 rfl ?_
  refine z_icmp_ge (hx.1 d) (tgt := 452) dL_law_445 (by decide) h (fun h => h) (fun hc h => ?_) (fun hc h => ?_)
  · refine z_iconst (hx.1 d) (n := 0) dL_law_452 ?_
    refine z_sub [1, 2, 3, 4, 5, 6, 7, 8, 9, 0, 11] rfl ?_
    exact w_L_law_b453 hx hn hR hq hK317 hK391 σ1 x3 x4 x5 x6 x7 x8 x9 s0 x12 x11 0 h d hd
  · refine z_iconst (hx.1 d) (n := 1) dL_law_448 ?_
    refine z_goto (hx.1 d) (tgt := 453) dL_law_449 (by decide) ?_
    refine z_sub [1, 2, 3, 4, 5, 6, 7, 8, 9, 0, 11] rfl ?_
    exact w_L_law_b453 hx hn hR hq hK317 hK391 σ1 x3 x4 x5 x6 x7 x8 x9 s0 x12 x11 1 h d hd

theorem w_L_law_b431 {C : zC} {E : yE} (hx : y_ok C cL_law RL E) (hn : z_nL C = 13) (hR : z_R C = room_1) {rr : Unit × zS} (hq : ∀ (pc : Nat), decode cL_law pc = .ok (.ireturn, 1) → ∀ (σ : zS) (d : Drawn), y_dr C d → ∀ lv, z_W (y_D C d) σ pc lv [.int (zi 1)]) {K317 : zS → Int → Int → Option (Unit × zS)} (hK317 : ∀ (σ : zS) (x3 : Int) (x4 : Int) , K317 σ x3 x4 = some rr → y_W C σ 317 [(0, .ref (e_b E)), (1, .ref (z_ad (z_g C) 62)), (3, .int (zi x3)), (4, .int (zi x4))] []) {K391 : zS → Int → Int → Int → Int → Int → Int → Int → Int → Int → Int → Option (Unit × zS)} (hK391 : ∀ (σ : zS) (x3 : Int) (x4 : Int) (x5 : Int) (x6 : Int) (x7 : Int) (x8 : Int) (x9 : Int) (x10 : Int) (x11 : Int) (x12 : Int) , K391 σ x3 x4 x5 x6 x7 x8 x9 x10 x11 x12 = some rr → y_W C σ 391 [(0, .ref (e_b E)), (1, .ref (z_ad (z_g C) 62)), (3, .int (zi x3)), (4, .int (zi x4)), (5, .int (zi x5)), (6, .int (zi x6)), (7, .int (zi x7)), (8, .int (zi x8)), (9, .int (zi x9)), (10, .int (zi x10)), (11, .int (zi x11)), (12, .int (zi x12))] []) (σ : zS) (x3 : Int) (x4 : Int) (x5 : Int) (x6 : Int) (x7 : Int) (x8 : Int) (x9 : Int) (x11 : Int) (x12 : Int) (h : f_L_law_b431 E K317 K391 σ x3 x4 x5 x6 x7 x8 x9 x11 x12 = some rr) : y_W C σ 431 [(0, .ref (e_b E)), (1, .ref (z_ad (z_g C) 62)), (3, .int (zi x3)), (4, .int (zi x4)), (5, .int (zi x5)), (6, .int (zi x6)), (7, .int (zi x7)), (8, .int (zi x8)), (9, .int (zi x9)), (11, .int (zi x11)), (12, .int (zi x12))] [] := by
  intro d hd
  unfold f_L_law_b431 at h
  refine z_iconst (hx.1 d) (n := 0) dL_law_431 ?_
  refine z_sub [0, 1, 2, 3, 4, 5, 6, 7, 8, 9, 10] rfl ?_
  exact w_L_law_b432 hx hn hR hq hK317 hK391 σ x3 x4 x5 x6 x7 x8 x9 x11 x12 0 h d hd

theorem w_L_law_b427 {C : zC} {E : yE} (hx : y_ok C cL_law RL E) (hn : z_nL C = 13) (hR : z_R C = room_1) {rr : Unit × zS} (hq : ∀ (pc : Nat), decode cL_law pc = .ok (.ireturn, 1) → ∀ (σ : zS) (d : Drawn), y_dr C d → ∀ lv, z_W (y_D C d) σ pc lv [.int (zi 1)]) {K317 : zS → Int → Int → Option (Unit × zS)} (hK317 : ∀ (σ : zS) (x3 : Int) (x4 : Int) , K317 σ x3 x4 = some rr → y_W C σ 317 [(0, .ref (e_b E)), (1, .ref (z_ad (z_g C) 62)), (3, .int (zi x3)), (4, .int (zi x4))] []) {K391 : zS → Int → Int → Int → Int → Int → Int → Int → Int → Int → Int → Option (Unit × zS)} (hK391 : ∀ (σ : zS) (x3 : Int) (x4 : Int) (x5 : Int) (x6 : Int) (x7 : Int) (x8 : Int) (x9 : Int) (x10 : Int) (x11 : Int) (x12 : Int) , K391 σ x3 x4 x5 x6 x7 x8 x9 x10 x11 x12 = some rr → y_W C σ 391 [(0, .ref (e_b E)), (1, .ref (z_ad (z_g C) 62)), (3, .int (zi x3)), (4, .int (zi x4)), (5, .int (zi x5)), (6, .int (zi x6)), (7, .int (zi x7)), (8, .int (zi x8)), (9, .int (zi x9)), (10, .int (zi x10)), (11, .int (zi x11)), (12, .int (zi x12))] []) (σ : zS) (x3 : Int) (x4 : Int) (x5 : Int) (x6 : Int) (x7 : Int) (x8 : Int) (x9 : Int) (x11 : Int) (x12 : Int) (h : f_L_law_b427 E K317 K391 σ x3 x4 x5 x6 x7 x8 x9 x11 x12 = some rr) : y_W C σ 427 [(0, .ref (e_b E)), (1, .ref (z_ad (z_g C) 62)), (3, .int (zi x3)), (4, .int (zi x4)), (5, .int (zi x5)), (6, .int (zi x6)), (7, .int (zi x7)), (8, .int (zi x8)), (9, .int (zi x9)), (11, .int (zi x11)), (12, .int (zi x12))] [] := by
  intro d hd
  unfold f_L_law_b427 at h
  refine z_iconst (hx.1 d) (n := 1) dL_law_427 ?_
  refine z_goto (hx.1 d) (tgt := 432) dL_law_428 (by decide) ?_
  refine z_sub [0, 1, 2, 3, 4, 5, 6, 7, 8, 9, 10] rfl ?_
  exact w_L_law_b432 hx hn hR hq hK317 hK391 σ x3 x4 x5 x6 x7 x8 x9 x11 x12 1 h d hd

theorem w_L_law_b391 {C : zC} {E : yE} (hx : y_ok C cL_law RL E) (hn : z_nL C = 13) (hR : z_R C = room_1) {rr : Unit × zS} (hq : ∀ (pc : Nat), decode cL_law pc = .ok (.ireturn, 1) → ∀ (σ : zS) (d : Drawn), y_dr C d → ∀ lv, z_W (y_D C d) σ pc lv [.int (zi 1)]) {K317 : zS → Int → Int → Option (Unit × zS)} (hK317 : ∀ (σ : zS) (x3 : Int) (x4 : Int) , K317 σ x3 x4 = some rr → y_W C σ 317 [(0, .ref (e_b E)), (1, .ref (z_ad (z_g C) 62)), (3, .int (zi x3)), (4, .int (zi x4))] []) {K391 : zS → Int → Int → Int → Int → Int → Int → Int → Int → Int → Int → Option (Unit × zS)} (hK391 : ∀ (σ : zS) (x3 : Int) (x4 : Int) (x5 : Int) (x6 : Int) (x7 : Int) (x8 : Int) (x9 : Int) (x10 : Int) (x11 : Int) (x12 : Int) , K391 σ x3 x4 x5 x6 x7 x8 x9 x10 x11 x12 = some rr → y_W C σ 391 [(0, .ref (e_b E)), (1, .ref (z_ad (z_g C) 62)), (3, .int (zi x3)), (4, .int (zi x4)), (5, .int (zi x5)), (6, .int (zi x6)), (7, .int (zi x7)), (8, .int (zi x8)), (9, .int (zi x9)), (10, .int (zi x10)), (11, .int (zi x11)), (12, .int (zi x12))] []) (σ : zS) (x3 : Int) (x4 : Int) (x5 : Int) (x6 : Int) (x7 : Int) (x8 : Int) (x9 : Int) (x10 : Int) (x11 : Int) (x12 : Int) (h : f_L_law_b391 E K317 K391 σ x3 x4 x5 x6 x7 x8 x9 x10 x11 x12 = some rr) : y_W C σ 391 [(0, .ref (e_b E)), (1, .ref (z_ad (z_g C) 62)), (3, .int (zi x3)), (4, .int (zi x4)), (5, .int (zi x5)), (6, .int (zi x6)), (7, .int (zi x7)), (8, .int (zi x8)), (9, .int (zi x9)), (10, .int (zi x10)), (11, .int (zi x11)), (12, .int (zi x12))] [] := by
  intro d hd
  unfold f_L_law_b391 at h
  refine z_iload (hx.1 d) 11 dL_law_391 rfl ?_
  refine z_iload (hx.1 d) 7 dL_law_393 rfl ?_
  refine z_icmp_ge (hx.1 d) (tgt := 462) dL_law_395 (by decide) h (fun h => h) (fun hc h => ?_) (fun hc h => ?_)
  · refine z_aload_n (hx.1 d) 1 dL_law_462 rfl ?_
    refine z_iload (hx.1 d) 4 dL_law_463 rfl ?_
    refine z_iconst (hx.1 d) (n := 4) dL_law_465 ?_
    obtain ⟨r2, σ1, h466, h⟩ := z_bind_some h
    refine y_calls hx hd (As := [.int (zi x5), .int (zi 4)]) (met_L_up (z_l C) (z_g C) E (y_sd hx) h466) cv_L_101 (z_room hR ⟨Nat.le_of_ble_eq_true rfl, Nat.le_of_ble_eq_true rfl⟩) ⟨rfl, rfl⟩ rfl rfl (Nat.le_of_ble_eq_true rfl) dL_law_466 (fun d hd => ?_)
    refine z_iload (hx.1 d) 5 dL_law_469 rfl ?_
    refine z_iload (hx.1 d) 6 dL_law_471 rfl ?_
    refine z_iload (hx.1 d) 4 dL_law_473 rfl ?_
    refine z_bipush (hx.1 d) (n := 14) dL_law_475 rfl ?_
    refine y_ishr (hx.1 d) dL_law_477 ?_
    refine z_bipush (hx.1 d) (n := 101) dL_law_478 rfl ?_
    obtain ⟨r4, σ3, h480, h⟩ := z_bind_some h
    refine y_calls hx hd (As := [.int (zi (z_shr x5 14)), .int (zi 101)]) (met_L_up (z_l C) (z_g C) E (y_sd hx) h480) cv_L_101 (z_room hR ⟨Nat.le_of_ble_eq_true rfl, Nat.le_of_ble_eq_true rfl⟩) ⟨rfl, rfl⟩ rfl rfl (Nat.le_of_ble_eq_true rfl) dL_law_480 (fun d hd => ?_)
    obtain ⟨r6, σ5, h483, h⟩ := z_bind_some h
    refine z_calli (hx.1 d) (As := [.int (zi r2), .int (zi x6), .int (zi x7), .int (zi r4)]) (k := 62) (met_X5_mark (z_l C) (z_g C) (y_sd hx) h483) (z_lt0 (z_ok_sd (hx.1 d)) (by decide)) (z_kb62 (z_ok_sd (hx.1 d)) _) rfl rfl cv_L_26 (z_room hR ⟨Nat.le_of_ble_eq_true rfl, Nat.le_of_ble_eq_true rfl⟩) ⟨rfl, rfl⟩ rfl rfl (Nat.le_of_ble_eq_true rfl) dL_law_483 ?_
    refine z_istore (hx.1 d) hn (lv' := [(12, .int (zi r6)), (0, .ref (e_b E)), (1, .ref (z_ad (z_g C) 62)), (3, .int (zi x3)), (4, .int (zi x4)), (5, .int (zi x5)), (6, .int (zi x6)), (7, .int (zi x7)), (8, .int (zi x8)), (9, .int (zi x9)), (10, .int (zi x10)), (11, .int (zi x11))]) dL_law_486 (by decide) rfl ?_
    refine z_iload (hx.1 d) 0 dL_law_488 rfl ?_
    refine z_iload (hx.1 d) 9 dL_law_490 rfl ?_
    refine z_if_ne (hx.1 d) (tgt := 499) dL_law_492 (by decide) h (fun h => h) (fun hc h => ?_) (fun hc h => ?_)
    · refine z_iload (hx.1 d) 10 dL_law_499 rfl ?_
      refine z_if_ne (hx.1 d) (tgt := 509) dL_law_501 (by decide) h (fun h => h) (fun hc h => ?_) (fun hc h => ?_)
      · refine z_iload (hx.1 d) 11 dL_law_509 rfl ?_
        refine z_sub [1, 2, 3, 4, 6, 7, 8, 0] rfl ?_
        exact w_L_law_b511 hx hn hR hq hK317 σ5 x3 x4 x6 x7 x8 r6 r6 x11 h d hd
      · refine z_bipush (hx.1 d) (n := (-2)) dL_law_504 rfl ?_
        refine z_goto (hx.1 d) (tgt := 511) dL_law_506 (by decide) ?_
        refine z_sub [1, 2, 3, 4, 6, 7, 8, 0] rfl ?_
        exact w_L_law_b511 hx hn hR hq hK317 σ5 x3 x4 x6 x7 x8 r6 r6 (-2) h d hd
    · refine z_iconst (hx.1 d) (n := (-1)) dL_law_495 ?_
      refine z_goto (hx.1 d) (tgt := 511) dL_law_496 (by decide) ?_
      refine z_sub [1, 2, 3, 4, 6, 7, 8, 0] rfl ?_
      exact w_L_law_b511 hx hn hR hq hK317 σ5 x3 x4 x6 x7 x8 r6 r6 (-1) h d hd
  · refine z_iload (hx.1 d) 9 dL_law_398 rfl ?_
    refine z_if_eq (hx.1 d) (tgt := 431) dL_law_400 (by decide) h (fun h => h) (fun hc h => ?_) (fun hc h => ?_)
    · refine z_sub [0, 1, 2, 3, 4, 5, 6, 7, 8, 10, 11] rfl ?_
      exact w_L_law_b431 hx hn hR hq hK317 hK391 σ x3 x4 x5 x6 x7 x8 x9 x11 x12 h d hd
    · refine z_aload_n (hx.1 d) 1 dL_law_403 rfl ?_
      refine z_iload (hx.1 d) 11 dL_law_404 rfl ?_
      refine z_iconst (hx.1 d) (n := 1) dL_law_406 ?_
      obtain ⟨r8, σ7, h407, h⟩ := z_bind_some h
      refine z_calli (hx.1 d) (As := [.int (zi x12), .int (zi 1)]) (k := 62) (met_X5_about (z_l C) (z_g C) (y_sd hx) h407) (z_lt0 (z_ok_sd (hx.1 d)) (by decide)) (z_kb62 (z_ok_sd (hx.1 d)) _) rfl rfl cv_L_40 (z_room hR ⟨Nat.le_of_ble_eq_true rfl, Nat.le_of_ble_eq_true rfl⟩) ⟨rfl, rfl⟩ rfl rfl (Nat.le_of_ble_eq_true rfl) dL_law_407 ?_
      refine z_iload (hx.1 d) 6 dL_law_410 rfl ?_
      refine z_icmp_ge (hx.1 d) (tgt := 427) dL_law_412 (by decide) h (fun h => h) (fun hc h => ?_) (fun hc h => ?_)
      · refine z_sub [0, 1, 2, 3, 4, 5, 6, 7, 8, 10, 11] rfl ?_
        exact w_L_law_b427 hx hn hR hq hK317 hK391 σ7 x3 x4 x5 x6 x7 x8 x9 x11 x12 h d hd
      · refine z_aload_n (hx.1 d) 1 dL_law_415 rfl ?_
        refine z_iload (hx.1 d) 11 dL_law_416 rfl ?_
        refine z_iconst (hx.1 d) (n := 2) dL_law_418 ?_
        obtain ⟨r10, σ9, h419, h⟩ := z_bind_some h
        refine z_calli (hx.1 d) (As := [.int (zi x12), .int (zi 2)]) (k := 62) (met_X5_about (z_l C) (z_g C) (y_sd hx) h419) (z_lt0 (z_ok_sd (hx.1 d)) (by decide)) (z_kb62 (z_ok_sd (hx.1 d)) _) rfl rfl cv_L_40 (z_room hR ⟨Nat.le_of_ble_eq_true rfl, Nat.le_of_ble_eq_true rfl⟩) ⟨rfl, rfl⟩ rfl rfl (Nat.le_of_ble_eq_true rfl) dL_law_419 ?_
        refine z_iload (hx.1 d) 5 dL_law_422 rfl ?_
        refine z_icmp_gt (hx.1 d) (tgt := 431) dL_law_424 (by decide) h (fun h => h) (fun hc h => ?_) (fun hc h => ?_)
        · refine z_sub [0, 1, 2, 3, 4, 5, 6, 7, 8, 10, 11] rfl ?_
          exact w_L_law_b431 hx hn hR hq hK317 hK391 σ9 x3 x4 x5 x6 x7 x8 x9 x11 x12 h d hd
        · refine z_sub [0, 1, 2, 3, 4, 5, 6, 7, 8, 10, 11] rfl ?_
          exact w_L_law_b427 hx hn hR hq hK317 hK391 σ9 x3 x4 x5 x6 x7 x8 x9 x11 x12 h d hd

theorem w_L_law_l391 {C : zC} {E : yE} (hx : y_ok C cL_law RL E) (hn : z_nL C = 13) (hR : z_R C = room_1) {rr : Unit × zS} (hq : ∀ (pc : Nat), decode cL_law pc = .ok (.ireturn, 1) → ∀ (σ : zS) (d : Drawn), y_dr C d → ∀ lv, z_W (y_D C d) σ pc lv [.int (zi 1)]) {K317 : zS → Int → Int → Option (Unit × zS)} (hK317 : ∀ (σ : zS) (x3 : Int) (x4 : Int) , K317 σ x3 x4 = some rr → y_W C σ 317 [(0, .ref (e_b E)), (1, .ref (z_ad (z_g C) 62)), (3, .int (zi x3)), (4, .int (zi x4))] []) : ∀ (n : Nat) (σ : zS) (x3 : Int) (x4 : Int) (x5 : Int) (x6 : Int) (x7 : Int) (x8 : Int) (x9 : Int) (x10 : Int) (x11 : Int) (x12 : Int) (_ : f_L_law_l391 E K317 n σ x3 x4 x5 x6 x7 x8 x9 x10 x11 x12 = some rr), y_W C σ 391 [(0, .ref (e_b E)), (1, .ref (z_ad (z_g C) 62)), (3, .int (zi x3)), (4, .int (zi x4)), (5, .int (zi x5)), (6, .int (zi x6)), (7, .int (zi x7)), (8, .int (zi x8)), (9, .int (zi x9)), (10, .int (zi x10)), (11, .int (zi x11)), (12, .int (zi x12))] [] := by
  intro n
  induction n with
  | zero => intro σ x3 x4 x5 x6 x7 x8 x9 x10 x11 x12 h; cases h
  | succ n ih =>
    intro σ x3 x4 x5 x6 x7 x8 x9 x10 x11 x12 h
    exact w_L_law_b391 hx hn hR hq hK317 ih σ x3 x4 x5 x6 x7 x8 x9 x10 x11 x12 h
theorem w_L_law_b380 {C : zC} {E : yE} (hx : y_ok C cL_law RL E) (hn : z_nL C = 13) (hR : z_R C = room_1) {rr : Unit × zS} (hq : ∀ (pc : Nat), decode cL_law pc = .ok (.ireturn, 1) → ∀ (σ : zS) (d : Drawn), y_dr C d → ∀ lv, z_W (y_D C d) σ pc lv [.int (zi 1)]) {K317 : zS → Int → Int → Option (Unit × zS)} (hK317 : ∀ (σ : zS) (x3 : Int) (x4 : Int) , K317 σ x3 x4 = some rr → y_W C σ 317 [(0, .ref (e_b E)), (1, .ref (z_ad (z_g C) 62)), (3, .int (zi x3)), (4, .int (zi x4))] []) (σ : zS) (x3 : Int) (x4 : Int) (x5 : Int) (x6 : Int) (x7 : Int) (x8 : Int) (s0 : Int) (h : f_L_law_b380 E K317 σ x3 x4 x5 x6 x7 x8 s0 = some rr) : y_W C σ 380 [(0, .ref (e_b E)), (1, .ref (z_ad (z_g C) 62)), (3, .int (zi x3)), (4, .int (zi x4)), (5, .int (zi x5)), (6, .int (zi x6)), (7, .int (zi x7)), (8, .int (zi x8))] [.int (zi s0)] := by
  intro d hd
  unfold f_L_law_b380 at h
  refine z_istore (hx.1 d) hn (lv' := [(9, .int (zi s0)), (0, .ref (e_b E)), (1, .ref (z_ad (z_g C) 62)), (3, .int (zi x3)), (4, .int (zi x4)), (5, .int (zi x5)), (6, .int (zi x6)), (7, .int (zi x7)), (8, .int (zi x8))]) dL_law_380 (by decide) rfl ?_
  refine z_iconst (hx.1 d) (n := 1) dL_law_382 ?_
  refine z_istore (hx.1 d) hn (lv' := [(10, .int (zi 1)), (9, .int (zi s0)), (0, .ref (e_b E)), (1, .ref (z_ad (z_g C) 62)), (3, .int (zi x3)), (4, .int (zi x4)), (5, .int (zi x5)), (6, .int (zi x6)), (7, .int (zi x7)), (8, .int (zi x8))]) dL_law_383 (by decide) rfl ?_
  refine z_iconst (hx.1 d) (n := 0) dL_law_385 ?_
  refine z_istore (hx.1 d) hn (lv' := [(11, .int (zi 0)), (10, .int (zi 1)), (9, .int (zi s0)), (0, .ref (e_b E)), (1, .ref (z_ad (z_g C) 62)), (3, .int (zi x3)), (4, .int (zi x4)), (5, .int (zi x5)), (6, .int (zi x6)), (7, .int (zi x7)), (8, .int (zi x8))]) dL_law_386 (by decide) rfl ?_
  refine z_iconst (hx.1 d) (n := 0) dL_law_388 ?_
  refine z_istore (hx.1 d) hn (lv' := [(12, .int (zi 0)), (11, .int (zi 0)), (10, .int (zi 1)), (9, .int (zi s0)), (0, .ref (e_b E)), (1, .ref (z_ad (z_g C) 62)), (3, .int (zi x3)), (4, .int (zi x4)), (5, .int (zi x5)), (6, .int (zi x6)), (7, .int (zi x7)), (8, .int (zi x8))]) dL_law_389 (by decide) rfl ?_
  refine z_sub [4, 5, 6, 7, 8, 9, 10, 11, 3, 2, 1, 0] rfl ?_
  exact w_L_law_l391 hx hn hR hq hK317 z_fuel σ x3 x4 x5 x6 x7 x8 s0 1 0 0 h d hd

theorem w_L_law_b317 {C : zC} {E : yE} (hx : y_ok C cL_law RL E) (hn : z_nL C = 13) (hR : z_R C = room_1) {rr : Unit × zS} (hq : ∀ (pc : Nat), decode cL_law pc = .ok (.ireturn, 1) → ∀ (σ : zS) (d : Drawn), y_dr C d → ∀ lv, z_W (y_D C d) σ pc lv [.int (zi 1)]) {K317 : zS → Int → Int → Option (Unit × zS)} (hK317 : ∀ (σ : zS) (x3 : Int) (x4 : Int) , K317 σ x3 x4 = some rr → y_W C σ 317 [(0, .ref (e_b E)), (1, .ref (z_ad (z_g C) 62)), (3, .int (zi x3)), (4, .int (zi x4))] []) (σ : zS) (x3 : Int) (x4 : Int) (h : f_L_law_b317 E K317 σ x3 x4 = some rr) : y_W C σ 317 [(0, .ref (e_b E)), (1, .ref (z_ad (z_g C) 62)), (3, .int (zi x3)), (4, .int (zi x4))] [] := by
  intro d hd
  unfold f_L_law_b317 at h
  refine z_iload (hx.1 d) 3 dL_law_317 rfl ?_
  refine z_bipush (hx.1 d) (n := 16) dL_law_319 rfl ?_
  refine z_icmp_ge (hx.1 d) (tgt := 564) dL_law_321 (by decide) h (fun h => ⟨h, by decide⟩) (fun hc h => ?_) (fun hc h => ?_)
  · refine z_iconst (hx.1 d) (n := 0) dL_law_564 ?_
    refine z_istore (hx.1 d) hn (lv' := [(4, .int (zi 0)), (0, .ref (e_b E)), (1, .ref (z_ad (z_g C) 62)), (3, .int (zi x3))]) dL_law_565 (by decide) rfl ?_
    refine z_sub [1, 2, 0] rfl ?_
    exact w_L_law_l567 hx hn hR hq z_fuel σ 0 h d hd
  · refine z_aload_n (hx.1 d) 0 dL_law_324 rfl ?_
    refine z_iconst (hx.1 d) (n := 4) dL_law_325 ?_
    refine z_iload (hx.1 d) 3 dL_law_326 rfl ?_
    refine z_iadd (hx.1 d) dL_law_328 ?_
    obtain ⟨r2, σ1, h329, h⟩ := z_bind_some h
    refine y_calls hx hd (As := [.ref (e_b E), .int (zi (4 + x4))]) (met_L_cell (z_l C) (z_g C) E (y_sd hx) h329) cv_L_97 (z_room hR ⟨Nat.le_of_ble_eq_true rfl, Nat.le_of_ble_eq_true rfl⟩) ⟨rfl, rfl⟩ rfl rfl (Nat.le_of_ble_eq_true rfl) dL_law_329 (fun d hd => ?_)
    refine z_istore (hx.1 d) hn (lv' := [(5, .int (zi r2)), (0, .ref (e_b E)), (1, .ref (z_ad (z_g C) 62)), (3, .int (zi x3)), (4, .int (zi x4))]) dL_law_332 (by decide) rfl ?_
    refine z_iload (hx.1 d) 0 dL_law_334 rfl ?_
    refine z_iconst (hx.1 d) (n := 2) dL_law_336 ?_
    refine y_ishr (hx.1 d) dL_law_337 ?_
    refine z_iload_n (hx.1 d) 3 dL_law_338 rfl ?_
    obtain ⟨r4, σ3, h339, h⟩ := z_bind_some h
    refine y_calls hx hd (As := [.int (zi (z_shr r2 2)), .int (zi x3)]) (met_L_up (z_l C) (z_g C) E (y_sd hx) h339) cv_L_101 (z_room hR ⟨Nat.le_of_ble_eq_true rfl, Nat.le_of_ble_eq_true rfl⟩) ⟨rfl, rfl⟩ rfl rfl (Nat.le_of_ble_eq_true rfl) dL_law_339 (fun d hd => ?_)
    refine z_istore (hx.1 d) hn (lv' := [(6, .int (zi r4)), (5, .int (zi r2)), (0, .ref (e_b E)), (1, .ref (z_ad (z_g C) 62)), (3, .int (zi x3)), (4, .int (zi x4))]) dL_law_342 (by decide) rfl ?_
    refine z_iload (hx.1 d) 0 dL_law_344 rfl ?_
    refine z_iconst (hx.1 d) (n := 1) dL_law_346 ?_
    refine z_iadd (hx.1 d) dL_law_347 ?_
    refine z_iload (hx.1 d) 1 dL_law_348 rfl ?_
    refine z_bipush (hx.1 d) (n := 10) dL_law_350 rfl ?_
    refine y_ishr (hx.1 d) dL_law_352 ?_
    refine z_bipush (hx.1 d) (n := 9) dL_law_353 rfl ?_
    obtain ⟨r6, σ5, h355, h⟩ := z_bind_some h
    refine y_calls hx hd (As := [.int (zi (z_shr r2 10)), .int (zi 9)]) (met_L_up (z_l C) (z_g C) E (y_sd hx) h355) cv_L_101 (z_room hR ⟨Nat.le_of_ble_eq_true rfl, Nat.le_of_ble_eq_true rfl⟩) ⟨rfl, rfl⟩ rfl rfl (Nat.le_of_ble_eq_true rfl) dL_law_355 (fun d hd => ?_)
    refine z_iadd (hx.1 d) dL_law_358 ?_
    refine z_istore (hx.1 d) hn (lv' := [(7, .int (zi ((r4 + 1) + r6))), (6, .int (zi r4)), (5, .int (zi r2)), (0, .ref (e_b E)), (1, .ref (z_ad (z_g C) 62)), (3, .int (zi x3)), (4, .int (zi x4))]) dL_law_359 (by decide) rfl ?_
    refine z_aload_n (hx.1 d) 4 dL_law_361 rfl ?_
    refine z_bipush (hx.1 d) (n := 8) dL_law_362 rfl ?_
    obtain ⟨r8, σ7, h364, h⟩ := z_bind_some h
    refine z_calli (hx.1 d) (As := [.int (zi 8)]) (k := 62) (met_X5_setting (z_l C) (z_g C) (y_sd hx) h364) (z_lt0 (z_ok_sd (hx.1 d)) (by decide)) (z_kb62 (z_ok_sd (hx.1 d)) _) rfl rfl cv_L_15 (z_room hR ⟨Nat.le_of_ble_eq_true rfl, Nat.le_of_ble_eq_true rfl⟩) ⟨rfl, rfl⟩ rfl rfl (Nat.le_of_ble_eq_true rfl) dL_law_364 ?_
    refine z_istore (hx.1 d) hn (lv' := [(8, .int (zi r8)), (7, .int (zi ((r4 + 1) + r6))), (6, .int (zi r4)), (5, .int (zi r2)), (0, .ref (e_b E)), (1, .ref (z_ad (z_g C) 62)), (3, .int (zi x3)), (4, .int (zi x4))]) dL_law_367 (by decide) rfl ?_
    refine z_iload (hx.1 d) 1 dL_law_369 rfl ?_
    refine z_iload_n (hx.1 d) 6 dL_law_371 rfl ?_
    refine z_icmp_gt (hx.1 d) (tgt := 379) dL_law_372 (by decide) h (fun h => h) (fun hc h => ?_) (fun hc h => ?_)
    · refine z_iconst (hx.1 d) (n := 0) dL_law_379 ?_
      refine z_sub [4, 5, 6, 7, 3, 2, 1, 0] rfl ?_
      exact w_L_law_b380 hx hn hR hq hK317 σ7 x3 x4 r2 r4 ((r4 + 1) + r6) r8 0 h d hd
    · refine z_iconst (hx.1 d) (n := 1) dL_law_375 ?_
      refine z_goto (hx.1 d) (tgt := 380) dL_law_376 (by decide) ?_
      refine z_sub [4, 5, 6, 7, 3, 2, 1, 0] rfl ?_
      exact w_L_law_b380 hx hn hR hq hK317 σ7 x3 x4 r2 r4 ((r4 + 1) + r6) r8 1 h d hd

theorem w_L_law_l317 {C : zC} {E : yE} (hx : y_ok C cL_law RL E) (hn : z_nL C = 13) (hR : z_R C = room_1) {rr : Unit × zS} (hq : ∀ (pc : Nat), decode cL_law pc = .ok (.ireturn, 1) → ∀ (σ : zS) (d : Drawn), y_dr C d → ∀ lv, z_W (y_D C d) σ pc lv [.int (zi 1)]) : ∀ (n : Nat) (σ : zS) (x3 : Int) (x4 : Int) (_ : f_L_law_l317 E n σ x3 x4 = some rr), y_W C σ 317 [(0, .ref (e_b E)), (1, .ref (z_ad (z_g C) 62)), (3, .int (zi x3)), (4, .int (zi x4))] [] := by
  intro n
  induction n with
  | zero => intro σ x3 x4 h; cases h
  | succ n ih =>
    intro σ x3 x4 h
    exact w_L_law_b317 hx hn hR hq ih σ x3 x4 h
theorem w_L_law_b312 {C : zC} {E : yE} (hx : y_ok C cL_law RL E) (hn : z_nL C = 13) (hR : z_R C = room_1) {rr : Unit × zS} (hq : ∀ (pc : Nat), decode cL_law pc = .ok (.ireturn, 1) → ∀ (σ : zS) (d : Drawn), y_dr C d → ∀ lv, z_W (y_D C d) σ pc lv [.int (zi 1)]) (σ : zS) (h : f_L_law_b312 E σ = some rr) : y_W C σ 312 [] [] := by
  intro d hd
  unfold f_L_law_b312 at h
  refine z_iconst (hx.1 d) (n := 0) dL_law_312 ?_
  cases h

theorem w_L_law_b172 {C : zC} {E : yE} (hx : y_ok C cL_law RL E) (hn : z_nL C = 13) (hR : z_R C = room_1) {rr : Unit × zS} (hq : ∀ (pc : Nat), decode cL_law pc = .ok (.ireturn, 1) → ∀ (σ : zS) (d : Drawn), y_dr C d → ∀ lv, z_W (y_D C d) σ pc lv [.int (zi 1)]) (σ : zS) (h : f_L_law_b172 E σ = some rr) : y_W C σ 172 [] [] := by
  intro d hd
  unfold f_L_law_b172 at h
  refine z_iconst (hx.1 d) (n := 0) dL_law_172 ?_
  cases h

theorem w_L_law_b80 {C : zC} {E : yE} (hx : y_ok C cL_law RL E) (hn : z_nL C = 13) (hR : z_R C = room_1) {rr : Unit × zS} (hq : ∀ (pc : Nat), decode cL_law pc = .ok (.ireturn, 1) → ∀ (σ : zS) (d : Drawn), y_dr C d → ∀ lv, z_W (y_D C d) σ pc lv [.int (zi 1)]) (σ : zS) (h : f_L_law_b80 E σ = some rr) : y_W C σ 80 [] [] := by
  intro d hd
  unfold f_L_law_b80 at h
  refine z_iconst (hx.1 d) (n := 0) dL_law_80 ?_
  cases h

theorem w_L_law {C : zC} {E : yE} (hx : y_ok C cL_law RL E) (hn : z_nL C = 13) (hR : z_R C = room_1) {rr : Unit × zS} (hq : ∀ (pc : Nat), decode cL_law pc = .ok (.ireturn, 1) → ∀ (σ : zS) (d : Drawn), y_dr C d → ∀ lv, z_W (y_D C d) σ pc lv [.int (zi 1)]) (σ : zS) (h : f_L_law E σ = some rr) : y_W C σ 8 [(0, .ref (e_b E)), (1, .ref (z_ad (z_g C) 62))] [] := by
  intro d hd
  unfold f_L_law at h
  refine z_aload_n (hx.1 d) 1 dL_law_8 rfl ?_
  obtain ⟨r2, σ1, h9, h⟩ := z_bind_some h
  refine z_calli (hx.1 d) (As := []) (k := 62) (met_X5_undo (z_l C) (z_g C) (y_sd hx) h9) (z_lt0 (z_ok_sd (hx.1 d)) (by decide)) (z_kb62 (z_ok_sd (hx.1 d)) _) rfl rfl cv_L_74 (z_room hR ⟨Nat.le_of_ble_eq_true rfl, Nat.le_of_ble_eq_true rfl⟩) ⟨rfl, rfl⟩ rfl rfl (Nat.le_of_ble_eq_true rfl) dL_law_9 ?_
  refine z_bipush (hx.1 d) (n := (-9)) dL_law_12 rfl ?_
  refine z_icmp_ne (hx.1 d) (tgt := 80) dL_law_14 (by decide) h (fun h => ⟨h, by decide⟩) (fun hc h => ?_) (fun hc h => ?_)
  · refine z_sub [] rfl ?_
    exact w_L_law_b80 hx hn hR hq σ1 h d hd
  · refine z_aload_n (hx.1 d) 1 dL_law_17 rfl ?_
    obtain ⟨r4, σ3, h18, h⟩ := z_bind_some h
    refine z_calli (hx.1 d) (As := []) (k := 62) (met_X5_length (z_l C) (z_g C) (y_sd hx) h18) (z_lt0 (z_ok_sd (hx.1 d)) (by decide)) (z_kb62 (z_ok_sd (hx.1 d)) _) rfl rfl cv_L_59 (z_room hR ⟨Nat.le_of_ble_eq_true rfl, Nat.le_of_ble_eq_true rfl⟩) ⟨rfl, rfl⟩ rfl rfl (Nat.le_of_ble_eq_true rfl) dL_law_18 ?_
    refine z_if_ne (hx.1 d) (tgt := 80) dL_law_21 (by decide) h (fun h => h) (fun hc h => ?_) (fun hc h => ?_)
    · refine z_sub [] rfl ?_
      exact w_L_law_b80 hx hn hR hq σ3 h d hd
    · refine z_aload_n (hx.1 d) 1 dL_law_24 rfl ?_
      obtain ⟨r6, σ5, h25, h⟩ := z_bind_some h
      refine z_calli (hx.1 d) (As := []) (k := 62) (met_X5_cuts (z_l C) (z_g C) (y_sd hx) h25) (z_lt0 (z_ok_sd (hx.1 d)) (by decide)) (z_kb62 (z_ok_sd (hx.1 d)) _) rfl rfl cv_L_46 (z_room hR ⟨Nat.le_of_ble_eq_true rfl, Nat.le_of_ble_eq_true rfl⟩) ⟨rfl, rfl⟩ rfl rfl (Nat.le_of_ble_eq_true rfl) dL_law_25 ?_
      refine z_if_ne (hx.1 d) (tgt := 80) dL_law_28 (by decide) h (fun h => h) (fun hc h => ?_) (fun hc h => ?_)
      · refine z_sub [] rfl ?_
        exact w_L_law_b80 hx hn hR hq σ5 h d hd
      · refine z_aload_n (hx.1 d) 1 dL_law_31 rfl ?_
        obtain ⟨r8, σ7, h32, h⟩ := z_bind_some h
        refine y_callf hx hd (met_X5_loudness (z_l C) (z_g C) (y_sd hx) h32) rfl cv_L_77 (z_room hR ⟨Nat.le_of_ble_eq_true rfl, Nat.le_of_ble_eq_true rfl⟩) ⟨rfl, rfl⟩ (Nat.le_of_ble_eq_true rfl) dL_law_32 (fun w32 d hd hw32 => ?_)
        refine y_fconst0 (hx.1 d) dL_law_35 ?_
        refine y_fcmpl (hx.1 d) hw32 z_flt0 dL_law_36 h (fun h => ?_)
        refine z_if_ne (hx.1 d) (tgt := 80) dL_law_37 (by decide) h (fun h => h) (fun hc h => ?_) (fun hc h => ?_)
        · refine z_sub [] rfl ?_
          exact w_L_law_b80 hx hn hR hq σ7 h d hd
        · refine z_aload_n (hx.1 d) 1 dL_law_40 rfl ?_
          obtain ⟨r10, σ9, h41, h⟩ := z_bind_some h
          refine y_callf hx hd (met_X5_share (z_l C) (z_g C) (y_sd hx) h41) rfl cv_L_81 (z_room hR ⟨Nat.le_of_ble_eq_true rfl, Nat.le_of_ble_eq_true rfl⟩) ⟨rfl, rfl⟩ (Nat.le_of_ble_eq_true rfl) dL_law_41 (fun w41 d hd hw41 => ?_)
          refine y_fconst0 (hx.1 d) dL_law_44 ?_
          refine y_fcmpl (hx.1 d) hw41 z_flt0 dL_law_45 h (fun h => ?_)
          refine z_if_ne (hx.1 d) (tgt := 80) dL_law_46 (by decide) h (fun h => h) (fun hc h => ?_) (fun hc h => ?_)
          · refine z_sub [] rfl ?_
            exact w_L_law_b80 hx hn hR hq σ9 h d hd
          · refine z_aload_n (hx.1 d) 1 dL_law_49 rfl ?_
            obtain ⟨r12, σ11, h50, h⟩ := z_bind_some h
            refine z_calli (hx.1 d) (As := []) (k := 62) (met_X5_silence (z_l C) (z_g C) (y_sd hx) h50) (z_lt0 (z_ok_sd (hx.1 d)) (by decide)) (z_kb62 (z_ok_sd (hx.1 d)) _) rfl rfl cv_L_84 (z_room hR ⟨Nat.le_of_ble_eq_true rfl, Nat.le_of_ble_eq_true rfl⟩) ⟨rfl, rfl⟩ rfl rfl (Nat.le_of_ble_eq_true rfl) dL_law_50 ?_
            refine z_if_ne (hx.1 d) (tgt := 80) dL_law_53 (by decide) h (fun h => h) (fun hc h => ?_) (fun hc h => ?_)
            · refine z_sub [] rfl ?_
              exact w_L_law_b80 hx hn hR hq σ11 h d hd
            · refine z_aload_n (hx.1 d) 1 dL_law_56 rfl ?_
              obtain ⟨r14, σ13, h57, h⟩ := z_bind_some h
              refine z_calli (hx.1 d) (As := []) (k := 62) (met_X5_bestWindow (z_l C) (z_g C) (y_sd hx) h57) (z_lt0 (z_ok_sd (hx.1 d)) (by decide)) (z_kb62 (z_ok_sd (hx.1 d)) _) rfl rfl cv_L_87 (z_room hR ⟨Nat.le_of_ble_eq_true rfl, Nat.le_of_ble_eq_true rfl⟩) ⟨rfl, rfl⟩ rfl rfl (Nat.le_of_ble_eq_true rfl) dL_law_57 ?_
              refine z_if_ne (hx.1 d) (tgt := 80) dL_law_60 (by decide) h (fun h => h) (fun hc h => ?_) (fun hc h => ?_)
              · refine z_sub [] rfl ?_
                exact w_L_law_b80 hx hn hR hq σ13 h d hd
              · refine z_aload_n (hx.1 d) 1 dL_law_63 rfl ?_
                refine z_iconst (hx.1 d) (n := 0) dL_law_64 ?_
                obtain ⟨r16, σ15, h65, h⟩ := z_bind_some h
                refine z_calli (hx.1 d) (As := [.int (zi 0)]) (k := 62) (met_X5_greatestDoubt (z_l C) (z_g C) (y_sd hx) h65) (z_lt0 (z_ok_sd (hx.1 d)) (by decide)) (z_kb62 (z_ok_sd (hx.1 d)) _) rfl rfl cv_L_56 (z_room hR ⟨Nat.le_of_ble_eq_true rfl, Nat.le_of_ble_eq_true rfl⟩) ⟨rfl, rfl⟩ rfl rfl (Nat.le_of_ble_eq_true rfl) dL_law_65 ?_
                refine z_bipush (hx.1 d) (n := 100) dL_law_68 rfl ?_
                refine z_icmp_ne (hx.1 d) (tgt := 80) dL_law_70 (by decide) h (fun h => ⟨h, by decide⟩) (fun hc h => ?_) (fun hc h => ?_)
                · refine z_sub [] rfl ?_
                  exact w_L_law_b80 hx hn hR hq σ15 h d hd
                · refine z_aload_n (hx.1 d) 1 dL_law_73 rfl ?_
                  obtain ⟨r18, σ17, h74, h⟩ := z_bind_some h
                  refine y_calls hx hd (As := [.ref (z_ad (z_g C) 62)]) (met_L_fails (z_l C) (z_g C) E (y_sd hx) h74) cv_L_91 (z_room hR ⟨Nat.le_of_ble_eq_true rfl, Nat.le_of_ble_eq_true rfl⟩) ⟨rfl, rfl⟩ rfl rfl (Nat.le_of_ble_eq_true rfl) dL_law_74 (fun d hd => ?_)
                  refine z_if_ne (hx.1 d) (tgt := 82) dL_law_77 (by decide) h (fun h => h) (fun hc h => ?_) (fun hc h => ?_)
                  · refine z_iconst (hx.1 d) (n := 1) dL_law_82 ?_
                    refine z_aload_n (hx.1 d) 0 dL_law_83 rfl ?_
                    refine z_iconst (hx.1 d) (n := 0) dL_law_84 ?_
                    obtain ⟨r20, σ19, h85, h⟩ := z_bind_some h
                    refine y_calls hx hd (As := [.ref (e_b E), .int (zi 0)]) (met_L_cell (z_l C) (z_g C) E (y_sd hx) h85) cv_L_97 (z_room hR ⟨Nat.le_of_ble_eq_true rfl, Nat.le_of_ble_eq_true rfl⟩) ⟨rfl, rfl⟩ rfl rfl (Nat.le_of_ble_eq_true rfl) dL_law_85 (fun d hd => ?_)
                    refine z_bipush (hx.1 d) (n := 80) dL_law_88 rfl ?_
                    obtain ⟨r22, σ21, h90, h⟩ := z_bind_some h
                    refine y_calls hx hd (As := [.int (zi r20), .int (zi 80)]) (met_L_up (z_l C) (z_g C) E (y_sd hx) h90) cv_L_101 (z_room hR ⟨Nat.le_of_ble_eq_true rfl, Nat.le_of_ble_eq_true rfl⟩) ⟨rfl, rfl⟩ rfl rfl (Nat.le_of_ble_eq_true rfl) dL_law_90 (fun d hd => ?_)
                    refine z_iadd (hx.1 d) dL_law_93 ?_
                    refine z_istore_n (hx.1 d) hn (lv' := [(2, .int (zi (1 + r22))), (0, .ref (e_b E)), (1, .ref (z_ad (z_g C) 62))]) dL_law_94 (by decide) rfl ?_
                    refine z_aload_n (hx.1 d) 2 dL_law_95 rfl ?_
                    refine z_aload_n (hx.1 d) 1 dL_law_96 rfl ?_
                    refine z_iconst (hx.1 d) (n := 1) dL_law_97 ?_
                    obtain ⟨r24, σ23, h98, h⟩ := z_bind_some h
                    refine y_calls hx hd (As := [.ref (e_b E), .int (zi 1)]) (met_L_cell (z_l C) (z_g C) E (y_sd hx) h98) cv_L_97 (z_room hR ⟨Nat.le_of_ble_eq_true rfl, Nat.le_of_ble_eq_true rfl⟩) ⟨rfl, rfl⟩ rfl rfl (Nat.le_of_ble_eq_true rfl) dL_law_98 (fun d hd => ?_)
                    refine z_iload_n (hx.1 d) 0 dL_law_101 rfl ?_
                    obtain ⟨r26, σ25, h102, h⟩ := z_bind_some h
                    refine z_calli (hx.1 d) (As := [.int (zi r24), .int (zi (1 + r22))]) (k := 62) (met_X5_babble (z_l C) (z_g C) (y_sd hx) h102) (z_lt0 (z_ok_sd (hx.1 d)) (by decide)) (z_kb62 (z_ok_sd (hx.1 d)) _) rfl rfl cv_L_23 (z_room hR ⟨Nat.le_of_ble_eq_true rfl, Nat.le_of_ble_eq_true rfl⟩) ⟨rfl, rfl⟩ rfl rfl (Nat.le_of_ble_eq_true rfl) dL_law_102 ?_
                    refine z_iload_n (hx.1 d) 0 dL_law_105 rfl ?_
                    refine z_icmp_ne (hx.1 d) (tgt := 172) dL_law_106 (by decide) h (fun h => h) (fun hc h => ?_) (fun hc h => ?_)
                    · refine z_sub [] rfl ?_
                      exact w_L_law_b172 hx hn hR hq σ25 h d hd
                    · refine z_aload_n (hx.1 d) 2 dL_law_109 rfl ?_
                      refine z_aload_n (hx.1 d) 1 dL_law_110 rfl ?_
                      refine z_iconst (hx.1 d) (n := 0) dL_law_111 ?_
                      obtain ⟨r28, σ27, h112, h⟩ := z_bind_some h
                      refine y_calls hx hd (As := [.ref (e_b E), .int (zi 0)]) (met_L_cell (z_l C) (z_g C) E (y_sd hx) h112) cv_L_97 (z_room hR ⟨Nat.le_of_ble_eq_true rfl, Nat.le_of_ble_eq_true rfl⟩) ⟨rfl, rfl⟩ rfl rfl (Nat.le_of_ble_eq_true rfl) dL_law_112 (fun d hd => ?_)
                      refine z_bipush (hx.1 d) (n := 7) dL_law_115 rfl ?_
                      refine y_ishr (hx.1 d) dL_law_117 ?_
                      refine z_iconst (hx.1 d) (n := 3) dL_law_118 ?_
                      obtain ⟨r30, σ29, h119, h⟩ := z_bind_some h
                      refine y_calls hx hd (As := [.int (zi (z_shr r28 7)), .int (zi 3)]) (met_L_up (z_l C) (z_g C) E (y_sd hx) h119) cv_L_101 (z_room hR ⟨Nat.le_of_ble_eq_true rfl, Nat.le_of_ble_eq_true rfl⟩) ⟨rfl, rfl⟩ rfl rfl (Nat.le_of_ble_eq_true rfl) dL_law_119 (fun d hd => ?_)
                      refine z_iconst (hx.1 d) (n := 1) dL_law_122 ?_
                      refine z_aload_n (hx.1 d) 1 dL_law_123 rfl ?_
                      refine z_iconst (hx.1 d) (n := 0) dL_law_124 ?_
                      obtain ⟨r32, σ31, h125, h⟩ := z_bind_some h
                      refine y_calls hx hd (As := [.ref (e_b E), .int (zi 0)]) (met_L_cell (z_l C) (z_g C) E (y_sd hx) h125) cv_L_97 (z_room hR ⟨Nat.le_of_ble_eq_true rfl, Nat.le_of_ble_eq_true rfl⟩) ⟨rfl, rfl⟩ rfl rfl (Nat.le_of_ble_eq_true rfl) dL_law_125 (fun d hd => ?_)
                      refine z_bipush (hx.1 d) (n := 9) dL_law_128 rfl ?_
                      refine y_ishr (hx.1 d) dL_law_130 ?_
                      refine z_bipush (hx.1 d) (n := 20) dL_law_131 rfl ?_
                      obtain ⟨r34, σ33, h133, h⟩ := z_bind_some h
                      refine y_calls hx hd (As := [.int (zi (z_shr r32 9)), .int (zi 20)]) (met_L_up (z_l C) (z_g C) E (y_sd hx) h133) cv_L_101 (z_room hR ⟨Nat.le_of_ble_eq_true rfl, Nat.le_of_ble_eq_true rfl⟩) ⟨rfl, rfl⟩ rfl rfl (Nat.le_of_ble_eq_true rfl) dL_law_133 (fun d hd => ?_)
                      refine z_iadd (hx.1 d) dL_law_136 ?_
                      obtain ⟨r36, σ35, h137, h⟩ := z_bind_some h
                      refine z_calli (hx.1 d) (As := [.int (zi r30), .int (zi (1 + r34))]) (k := 62) (met_X5_append (z_l C) (z_g C) (y_sd hx) h137) (z_lt0 (z_ok_sd (hx.1 d)) (by decide)) (z_kb62 (z_ok_sd (hx.1 d)) _) rfl rfl cv_L_19 (z_room hR ⟨Nat.le_of_ble_eq_true rfl, Nat.le_of_ble_eq_true rfl⟩) ⟨rfl, rfl⟩ rfl rfl (Nat.le_of_ble_eq_true rfl) dL_law_137 ?_
                      refine z_iload_n (hx.1 d) 0 dL_law_140 rfl ?_
                      refine z_icmp_le (hx.1 d) (tgt := 172) dL_law_141 (by decide) h (fun h => h) (fun hc h => ?_) (fun hc h => ?_)
                      · refine z_sub [] rfl ?_
                        exact w_L_law_b172 hx hn hR hq σ35 h d hd
                      · refine z_aload_n (hx.1 d) 2 dL_law_144 rfl ?_
                        refine z_aload_n (hx.1 d) 1 dL_law_145 rfl ?_
                        refine z_iconst (hx.1 d) (n := 2) dL_law_146 ?_
                        obtain ⟨r38, σ37, h147, h⟩ := z_bind_some h
                        refine y_calls hx hd (As := [.ref (e_b E), .int (zi 2)]) (met_L_cell (z_l C) (z_g C) E (y_sd hx) h147) cv_L_97 (z_room hR ⟨Nat.le_of_ble_eq_true rfl, Nat.le_of_ble_eq_true rfl⟩) ⟨rfl, rfl⟩ rfl rfl (Nat.le_of_ble_eq_true rfl) dL_law_147 (fun d hd => ?_)
                        refine z_iconst (hx.1 d) (n := 1) dL_law_150 ?_
                        refine z_aload_n (hx.1 d) 1 dL_law_151 rfl ?_
                        refine z_iconst (hx.1 d) (n := 0) dL_law_152 ?_
                        obtain ⟨r40, σ39, h153, h⟩ := z_bind_some h
                        refine y_calls hx hd (As := [.ref (e_b E), .int (zi 0)]) (met_L_cell (z_l C) (z_g C) E (y_sd hx) h153) cv_L_97 (z_room hR ⟨Nat.le_of_ble_eq_true rfl, Nat.le_of_ble_eq_true rfl⟩) ⟨rfl, rfl⟩ rfl rfl (Nat.le_of_ble_eq_true rfl) dL_law_153 (fun d hd => ?_)
                        refine z_bipush (hx.1 d) (n := 14) dL_law_156 rfl ?_
                        refine y_ishr (hx.1 d) dL_law_158 ?_
                        refine z_bipush (hx.1 d) (n := 40) dL_law_159 rfl ?_
                        obtain ⟨r42, σ41, h161, h⟩ := z_bind_some h
                        refine y_calls hx hd (As := [.int (zi (z_shr r40 14)), .int (zi 40)]) (met_L_up (z_l C) (z_g C) E (y_sd hx) h161) cv_L_101 (z_room hR ⟨Nat.le_of_ble_eq_true rfl, Nat.le_of_ble_eq_true rfl⟩) ⟨rfl, rfl⟩ rfl rfl (Nat.le_of_ble_eq_true rfl) dL_law_161 (fun d hd => ?_)
                        refine z_iadd (hx.1 d) dL_law_164 ?_
                        obtain ⟨r44, σ43, h165, h⟩ := z_bind_some h
                        refine z_calli (hx.1 d) (As := [.int (zi r38), .int (zi (1 + r42))]) (k := 62) (met_X5_babble (z_l C) (z_g C) (y_sd hx) h165) (z_lt0 (z_ok_sd (hx.1 d)) (by decide)) (z_kb62 (z_ok_sd (hx.1 d)) _) rfl rfl cv_L_23 (z_room hR ⟨Nat.le_of_ble_eq_true rfl, Nat.le_of_ble_eq_true rfl⟩) ⟨rfl, rfl⟩ rfl rfl (Nat.le_of_ble_eq_true rfl) dL_law_165 ?_
                        refine z_iload_n (hx.1 d) 0 dL_law_168 rfl ?_
                        refine z_icmp_gt (hx.1 d) (tgt := 174) dL_law_169 (by decide) h (fun h => h) (fun hc h => ?_) (fun hc h => ?_)
                        · refine z_aload_n (hx.1 d) 2 dL_law_174 rfl ?_
                          refine z_bipush (hx.1 d) (n := 7) dL_law_175 rfl ?_
                          obtain ⟨r46, σ45, h177, h⟩ := z_bind_some h
                          refine z_calli (hx.1 d) (As := [.int (zi 7)]) (k := 62) (met_X5_setting (z_l C) (z_g C) (y_sd hx) h177) (z_lt0 (z_ok_sd (hx.1 d)) (by decide)) (z_kb62 (z_ok_sd (hx.1 d)) _) rfl rfl cv_L_15 (z_room hR ⟨Nat.le_of_ble_eq_true rfl, Nat.le_of_ble_eq_true rfl⟩) ⟨rfl, rfl⟩ rfl rfl (Nat.le_of_ble_eq_true rfl) dL_law_177 ?_
                          refine z_istore_n (hx.1 d) hn (lv' := [(3, .int (zi r46)), (2, .int (zi (1 + r22))), (0, .ref (e_b E)), (1, .ref (z_ad (z_g C) 62))]) dL_law_180 (by decide) rfl ?_
                          refine z_aload_n (hx.1 d) 3 dL_law_181 rfl ?_
                          refine z_iconst (hx.1 d) (n := 1) dL_law_182 ?_
                          refine z_aload_n (hx.1 d) 2 dL_law_183 rfl ?_
                          refine z_iconst (hx.1 d) (n := 3) dL_law_184 ?_
                          obtain ⟨r48, σ47, h185, h⟩ := z_bind_some h
                          refine y_calls hx hd (As := [.ref (e_b E), .int (zi 3)]) (met_L_cell (z_l C) (z_g C) E (y_sd hx) h185) cv_L_97 (z_room hR ⟨Nat.le_of_ble_eq_true rfl, Nat.le_of_ble_eq_true rfl⟩) ⟨rfl, rfl⟩ rfl rfl (Nat.le_of_ble_eq_true rfl) dL_law_185 (fun d hd => ?_)
                          refine z_bipush (hx.1 d) (n := 10) dL_law_188 rfl ?_
                          obtain ⟨r50, σ49, h190, h⟩ := z_bind_some h
                          refine y_calls hx hd (As := [.int (zi r48), .int (zi 10)]) (met_L_up (z_l C) (z_g C) E (y_sd hx) h190) cv_L_101 (z_room hR ⟨Nat.le_of_ble_eq_true rfl, Nat.le_of_ble_eq_true rfl⟩) ⟨rfl, rfl⟩ rfl rfl (Nat.le_of_ble_eq_true rfl) dL_law_190 (fun d hd => ?_)
                          obtain ⟨r52, σ51, h193, h⟩ := z_bind_some h
                          refine y_callset hx (As := [.int (zi 1), .int (zi r50)]) (met_X5_set (z_l C) (z_g C) (y_sd hx) h193) rfl cv_L_37 (z_room hR ⟨Nat.le_of_ble_eq_true rfl, Nat.le_of_ble_eq_true rfl⟩) ⟨rfl, rfl⟩ rfl rfl (Nat.le_of_ble_eq_true rfl) dL_law_193 ?_
                          refine z_iconst (hx.1 d) (n := 1) dL_law_196 ?_
                          refine z_icmp_ne (hx.1 d) (tgt := 312) dL_law_197 (by decide) h (fun h => ⟨h, by decide⟩) (fun hc h => ?_) (fun hc h => ?_)
                          · refine z_sub [] rfl ?_
                            exact w_L_law_b312 hx hn hR hq σ51 h d hd
                          · refine z_aload_n (hx.1 d) 3 dL_law_200 rfl ?_
                            refine z_iconst (hx.1 d) (n := 2) dL_law_201 ?_
                            refine z_aload_n (hx.1 d) 2 dL_law_202 rfl ?_
                            refine z_iconst (hx.1 d) (n := 3) dL_law_203 ?_
                            obtain ⟨r54, σ53, h204, h⟩ := z_bind_some h
                            refine y_calls hx hd (As := [.ref (e_b E), .int (zi 3)]) (met_L_cell (z_l C) (z_g C) E (y_sd hx) h204) cv_L_97 (z_room hR ⟨Nat.le_of_ble_eq_true rfl, Nat.le_of_ble_eq_true rfl⟩) ⟨rfl, rfl⟩ rfl rfl (Nat.le_of_ble_eq_true rfl) dL_law_204 (fun d hd => ?_)
                            refine z_iconst (hx.1 d) (n := 4) dL_law_207 ?_
                            refine y_ishr (hx.1 d) dL_law_208 ?_
                            refine z_bipush (hx.1 d) (n := 21) dL_law_209 rfl ?_
                            obtain ⟨r56, σ55, h211, h⟩ := z_bind_some h
                            refine y_calls hx hd (As := [.int (zi (z_shr r54 4)), .int (zi 21)]) (met_L_up (z_l C) (z_g C) E (y_sd hx) h211) cv_L_101 (z_room hR ⟨Nat.le_of_ble_eq_true rfl, Nat.le_of_ble_eq_true rfl⟩) ⟨rfl, rfl⟩ rfl rfl (Nat.le_of_ble_eq_true rfl) dL_law_211 (fun d hd => ?_)
                            obtain ⟨r58, σ57, h214, h⟩ := z_bind_some h
                            refine y_callset hx (As := [.int (zi 2), .int (zi r56)]) (met_X5_set (z_l C) (z_g C) (y_sd hx) h214) rfl cv_L_37 (z_room hR ⟨Nat.le_of_ble_eq_true rfl, Nat.le_of_ble_eq_true rfl⟩) ⟨rfl, rfl⟩ rfl rfl (Nat.le_of_ble_eq_true rfl) dL_law_214 ?_
                            refine z_iconst (hx.1 d) (n := 5) dL_law_217 ?_
                            refine z_icmp_ne (hx.1 d) (tgt := 312) dL_law_218 (by decide) h (fun h => ⟨h, by decide⟩) (fun hc h => ?_) (fun hc h => ?_)
                            · refine z_sub [] rfl ?_
                              exact w_L_law_b312 hx hn hR hq σ57 h d hd
                            · refine z_aload_n (hx.1 d) 3 dL_law_221 rfl ?_
                              refine z_iconst (hx.1 d) (n := 3) dL_law_222 ?_
                              refine z_aload_n (hx.1 d) 2 dL_law_223 rfl ?_
                              refine z_iconst (hx.1 d) (n := 3) dL_law_224 ?_
                              obtain ⟨r60, σ59, h225, h⟩ := z_bind_some h
                              refine y_calls hx hd (As := [.ref (e_b E), .int (zi 3)]) (met_L_cell (z_l C) (z_g C) E (y_sd hx) h225) cv_L_97 (z_room hR ⟨Nat.le_of_ble_eq_true rfl, Nat.le_of_ble_eq_true rfl⟩) ⟨rfl, rfl⟩ rfl rfl (Nat.le_of_ble_eq_true rfl) dL_law_225 (fun d hd => ?_)
                              refine z_bipush (hx.1 d) (n := 9) dL_law_228 rfl ?_
                              refine y_ishr (hx.1 d) dL_law_230 ?_
                              refine z_bipush (hx.1 d) (n := 12) dL_law_231 rfl ?_
                              obtain ⟨r62, σ61, h233, h⟩ := z_bind_some h
                              refine y_calls hx hd (As := [.int (zi (z_shr r60 9)), .int (zi 12)]) (met_L_up (z_l C) (z_g C) E (y_sd hx) h233) cv_L_101 (z_room hR ⟨Nat.le_of_ble_eq_true rfl, Nat.le_of_ble_eq_true rfl⟩) ⟨rfl, rfl⟩ rfl rfl (Nat.le_of_ble_eq_true rfl) dL_law_233 (fun d hd => ?_)
                              obtain ⟨r64, σ63, h236, h⟩ := z_bind_some h
                              refine y_callset hx (As := [.int (zi 3), .int (zi r62)]) (met_X5_set (z_l C) (z_g C) (y_sd hx) h236) rfl cv_L_37 (z_room hR ⟨Nat.le_of_ble_eq_true rfl, Nat.le_of_ble_eq_true rfl⟩) ⟨rfl, rfl⟩ rfl rfl (Nat.le_of_ble_eq_true rfl) dL_law_236 ?_
                              refine z_iconst (hx.1 d) (n := 4) dL_law_239 ?_
                              refine z_icmp_ne (hx.1 d) (tgt := 312) dL_law_240 (by decide) h (fun h => ⟨h, by decide⟩) (fun hc h => ?_) (fun hc h => ?_)
                              · refine z_sub [] rfl ?_
                                exact w_L_law_b312 hx hn hR hq σ63 h d hd
                              · refine z_aload_n (hx.1 d) 3 dL_law_243 rfl ?_
                                refine z_iconst (hx.1 d) (n := 4) dL_law_244 ?_
                                refine z_aload_n (hx.1 d) 2 dL_law_245 rfl ?_
                                refine z_iconst (hx.1 d) (n := 3) dL_law_246 ?_
                                obtain ⟨r66, σ65, h247, h⟩ := z_bind_some h
                                refine y_calls hx hd (As := [.ref (e_b E), .int (zi 3)]) (met_L_cell (z_l C) (z_g C) E (y_sd hx) h247) cv_L_97 (z_room hR ⟨Nat.le_of_ble_eq_true rfl, Nat.le_of_ble_eq_true rfl⟩) ⟨rfl, rfl⟩ rfl rfl (Nat.le_of_ble_eq_true rfl) dL_law_247 (fun d hd => ?_)
                                refine z_bipush (hx.1 d) (n := 13) dL_law_250 rfl ?_
                                refine y_ishr (hx.1 d) dL_law_252 ?_
                                refine z_bipush (hx.1 d) (n := 101) dL_law_253 rfl ?_
                                obtain ⟨r68, σ67, h255, h⟩ := z_bind_some h
                                refine y_calls hx hd (As := [.int (zi (z_shr r66 13)), .int (zi 101)]) (met_L_up (z_l C) (z_g C) E (y_sd hx) h255) cv_L_101 (z_room hR ⟨Nat.le_of_ble_eq_true rfl, Nat.le_of_ble_eq_true rfl⟩) ⟨rfl, rfl⟩ rfl rfl (Nat.le_of_ble_eq_true rfl) dL_law_255 (fun d hd => ?_)
                                obtain ⟨r70, σ69, h258, h⟩ := z_bind_some h
                                refine y_callset hx (As := [.int (zi 4), .int (zi r68)]) (met_X5_set (z_l C) (z_g C) (y_sd hx) h258) rfl cv_L_37 (z_room hR ⟨Nat.le_of_ble_eq_true rfl, Nat.le_of_ble_eq_true rfl⟩) ⟨rfl, rfl⟩ rfl rfl (Nat.le_of_ble_eq_true rfl) dL_law_258 ?_
                                refine z_bipush (hx.1 d) (n := 50) dL_law_261 rfl ?_
                                refine z_icmp_ne (hx.1 d) (tgt := 312) dL_law_263 (by decide) h (fun h => ⟨h, by decide⟩) (fun hc h => ?_) (fun hc h => ?_)
                                · refine z_sub [] rfl ?_
                                  exact w_L_law_b312 hx hn hR hq σ69 h d hd
                                · refine z_aload_n (hx.1 d) 3 dL_law_266 rfl ?_
                                  refine z_iconst (hx.1 d) (n := 5) dL_law_267 ?_
                                  refine z_aload_n (hx.1 d) 2 dL_law_268 rfl ?_
                                  refine z_iconst (hx.1 d) (n := 3) dL_law_269 ?_
                                  obtain ⟨r72, σ71, h270, h⟩ := z_bind_some h
                                  refine y_calls hx hd (As := [.ref (e_b E), .int (zi 3)]) (met_L_cell (z_l C) (z_g C) E (y_sd hx) h270) cv_L_97 (z_room hR ⟨Nat.le_of_ble_eq_true rfl, Nat.le_of_ble_eq_true rfl⟩) ⟨rfl, rfl⟩ rfl rfl (Nat.le_of_ble_eq_true rfl) dL_law_270 (fun d hd => ?_)
                                  refine z_bipush (hx.1 d) (n := 20) dL_law_273 rfl ?_
                                  refine y_ishr (hx.1 d) dL_law_275 ?_
                                  refine z_bipush (hx.1 d) (n := 9) dL_law_276 rfl ?_
                                  obtain ⟨r74, σ73, h278, h⟩ := z_bind_some h
                                  refine y_calls hx hd (As := [.int (zi (z_shr r72 20)), .int (zi 9)]) (met_L_up (z_l C) (z_g C) E (y_sd hx) h278) cv_L_101 (z_room hR ⟨Nat.le_of_ble_eq_true rfl, Nat.le_of_ble_eq_true rfl⟩) ⟨rfl, rfl⟩ rfl rfl (Nat.le_of_ble_eq_true rfl) dL_law_278 (fun d hd => ?_)
                                  obtain ⟨r76, σ75, h281, h⟩ := z_bind_some h
                                  refine y_callset hx (As := [.int (zi 5), .int (zi r74)]) (met_X5_set (z_l C) (z_g C) (y_sd hx) h281) rfl cv_L_37 (z_room hR ⟨Nat.le_of_ble_eq_true rfl, Nat.le_of_ble_eq_true rfl⟩) ⟨rfl, rfl⟩ rfl rfl (Nat.le_of_ble_eq_true rfl) dL_law_281 ?_
                                  refine z_bipush (hx.1 d) (n := 6) dL_law_284 rfl ?_
                                  refine z_icmp_ne (hx.1 d) (tgt := 312) dL_law_286 (by decide) h (fun h => ⟨h, by decide⟩) (fun hc h => ?_) (fun hc h => ?_)
                                  · refine z_sub [] rfl ?_
                                    exact w_L_law_b312 hx hn hR hq σ75 h d hd
                                  · refine z_aload_n (hx.1 d) 3 dL_law_289 rfl ?_
                                    refine z_bipush (hx.1 d) (n := 6) dL_law_290 rfl ?_
                                    refine z_aload_n (hx.1 d) 2 dL_law_292 rfl ?_
                                    refine z_iconst (hx.1 d) (n := 3) dL_law_293 ?_
                                    obtain ⟨r78, σ77, h294, h⟩ := z_bind_some h
                                    refine y_calls hx hd (As := [.ref (e_b E), .int (zi 3)]) (met_L_cell (z_l C) (z_g C) E (y_sd hx) h294) cv_L_97 (z_room hR ⟨Nat.le_of_ble_eq_true rfl, Nat.le_of_ble_eq_true rfl⟩) ⟨rfl, rfl⟩ rfl rfl (Nat.le_of_ble_eq_true rfl) dL_law_294 (fun d hd => ?_)
                                    refine z_bipush (hx.1 d) (n := 24) dL_law_297 rfl ?_
                                    refine y_ishr (hx.1 d) dL_law_299 ?_
                                    refine z_bipush (hx.1 d) (n := 6) dL_law_300 rfl ?_
                                    obtain ⟨r80, σ79, h302, h⟩ := z_bind_some h
                                    refine y_calls hx hd (As := [.int (zi (z_shr r78 24)), .int (zi 6)]) (met_L_up (z_l C) (z_g C) E (y_sd hx) h302) cv_L_101 (z_room hR ⟨Nat.le_of_ble_eq_true rfl, Nat.le_of_ble_eq_true rfl⟩) ⟨rfl, rfl⟩ rfl rfl (Nat.le_of_ble_eq_true rfl) dL_law_302 (fun d hd => ?_)
                                    obtain ⟨r82, σ81, h305, h⟩ := z_bind_some h
                                    refine y_callset hx (As := [.int (zi 6), .int (zi r80)]) (met_X5_set (z_l C) (z_g C) (y_sd hx) h305) rfl cv_L_37 (z_room hR ⟨Nat.le_of_ble_eq_true rfl, Nat.le_of_ble_eq_true rfl⟩) ⟨rfl, rfl⟩ rfl rfl (Nat.le_of_ble_eq_true rfl) dL_law_305 ?_
                                    refine z_iconst (hx.1 d) (n := 2) dL_law_308 ?_
                                    refine z_icmp_eq (hx.1 d) (tgt := 314) dL_law_309 (by decide) h (fun h => ⟨h, by decide⟩) (fun hc h => ?_) (fun hc h => ?_)
                                    · refine z_iconst (hx.1 d) (n := 0) dL_law_314 ?_
                                      refine z_istore (hx.1 d) hn (lv' := [(4, .int (zi 0)), (3, .int (zi r46)), (2, .int (zi (1 + r22))), (0, .ref (e_b E)), (1, .ref (z_ad (z_g C) 62))]) dL_law_315 (by decide) rfl ?_
                                      refine z_sub [3, 4, 1, 0] rfl ?_
                                      exact w_L_law_l317 hx hn hR hq z_fuel σ81 r46 0 h d hd
                                    · refine z_sub [] rfl ?_
                                      exact w_L_law_b312 hx hn hR hq σ81 h d hd
                        · refine z_sub [] rfl ?_
                          exact w_L_law_b172 hx hn hR hq σ43 h d hd
                  · refine z_sub [] rfl ?_
                    exact w_L_law_b80 hx hn hR hq σ17 h d hd

