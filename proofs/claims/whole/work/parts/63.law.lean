/-! the law's cases, by program: the rest -/
theorem law_c13 {K : LC} {d0 : Drawn} {σ τ : zS} (hx : l_ok K) {i : Int} (h0 : 0 ≤ i) (h1 : i + 5 ≤ (l_L K : Int)) {A : zA} (hA : a_ok A) (hC : a_C σ A) (hM : a_M τ A) (kk : ∀ (d1 : Drawn) (σ1 τ1 : zS) (A1 : zA), a_ok A1 → a_C σ1 A1 → a_M τ1 A1 → l_W K d1 σ1 τ1 827 (l_lv K i) []) : l_W K d0 σ τ 517 (l_lv K i) [] := by
  obtain ⟨r, σ1, τ1, A1, e1, e2, k1, k2, k3⟩ := o_cut (x := l_v K (i + 1)) (c := l_v K (i + 2)) hA hC hM l_v_zr l_v_zr
  refine l_aload_n hx 2 (i := 1) dL_law_517 rfl ?_
  refine l_arg hx 3 0 rfl rfl h0 h1 (j := 1) (by decide) dL_law_518 dL_law_519 dL_law_520 dL_law_521 dL_law_522 ?_
  refine l_arg hx 3 0 rfl rfl h0 h1 (j := 2) (by decide) dL_law_523 dL_law_524 dL_law_525 dL_law_526 dL_law_527 ?_
  refine l_iC hx (As := [.int (zi (l_v K (i + 1))), .int (zi (l_v K (i + 2)))]) (met_X5_cut (l_l K) (l_C K) (l_hC hx) e1) rfl cv_L_70 ⟨Nat.le_of_ble_eq_true rfl, Nat.le_of_ble_eq_true rfl⟩ ⟨rfl, rfl⟩ rfl rfl (Nat.le_of_ble_eq_true rfl) dL_law_528 ?_
  refine l_aload_n hx 1 (i := 2) dL_law_531 rfl ?_
  refine l_arg hx 3 0 rfl rfl h0 h1 (j := 1) (by decide) dL_law_532 dL_law_533 dL_law_534 dL_law_535 dL_law_536 ?_
  refine l_arg hx 3 0 rfl rfl h0 h1 (j := 2) (by decide) dL_law_537 dL_law_538 dL_law_539 dL_law_540 dL_law_541 ?_
  refine l_iM hx (As := [.int (zi (l_v K (i + 1))), .int (zi (l_v K (i + 2)))]) (met_X6_cut (l_l K) (l_M K) (l_hM hx) e2) rfl cv_L_73 ⟨Nat.le_of_ble_eq_true rfl, Nat.le_of_ble_eq_true rfl⟩ ⟨rfl, rfl⟩ rfl rfl (Nat.le_of_ble_eq_true rfl) dL_law_542 ?_
  refine l_eq hx (tgt := 827) dL_law_545 (by decide) ?_
  exact kk d0 σ1 τ1 A1 k1 k2 k3
theorem law_c14 {K : LC} {d0 : Drawn} {σ τ : zS} (hx : l_ok K) {i : Int} (h0 : 0 ≤ i) (h1 : i + 5 ≤ (l_L K : Int)) {A : zA} (hA : a_ok A) (hC : a_C σ A) (hM : a_M τ A) (kk : ∀ (d1 : Drawn) (σ1 τ1 : zS) (A1 : zA), a_ok A1 → a_C σ1 A1 → a_M τ1 A1 → l_W K d1 σ1 τ1 827 (l_lv K i) []) : l_W K d0 σ τ 550 (l_lv K i) [] := by
  obtain ⟨r, σ1, τ1, A1, e1, e2, k1, k2, k3⟩ := o_sum (x := l_v K (i + 1)) hA hC hM l_v_zr
  refine l_aload_n hx 2 (i := 1) dL_law_550 rfl ?_
  refine l_arg hx 3 0 rfl rfl h0 h1 (j := 1) (by decide) dL_law_551 dL_law_552 dL_law_553 dL_law_554 dL_law_555 ?_
  refine l_iC hx (As := [.int (zi (l_v K (i + 1)))]) (met_X5_sum (l_l K) (l_C K) (l_hC hx) e1) rfl cv_L_74 ⟨Nat.le_of_ble_eq_true rfl, Nat.le_of_ble_eq_true rfl⟩ ⟨rfl, rfl⟩ rfl rfl (Nat.le_of_ble_eq_true rfl) dL_law_556 ?_
  refine l_aload_n hx 1 (i := 2) dL_law_559 rfl ?_
  refine l_arg hx 3 0 rfl rfl h0 h1 (j := 1) (by decide) dL_law_560 dL_law_561 dL_law_562 dL_law_563 dL_law_564 ?_
  refine l_iM hx (As := [.int (zi (l_v K (i + 1)))]) (met_X6_sum (l_l K) (l_M K) (l_hM hx) e2) rfl cv_L_77 ⟨Nat.le_of_ble_eq_true rfl, Nat.le_of_ble_eq_true rfl⟩ ⟨rfl, rfl⟩ rfl rfl (Nat.le_of_ble_eq_true rfl) dL_law_565 ?_
  refine l_eq hx (tgt := 827) dL_law_568 (by decide) ?_
  exact kk d0 σ1 τ1 A1 k1 k2 k3
theorem law_c15 {K : LC} {d0 : Drawn} {σ τ : zS} (hx : l_ok K) {i : Int} (h0 : 0 ≤ i) (h1 : i + 5 ≤ (l_L K : Int)) {A : zA} (hA : a_ok A) (hC : a_C σ A) (hM : a_M τ A) (kk : ∀ (d1 : Drawn) (σ1 τ1 : zS) (A1 : zA), a_ok A1 → a_C σ1 A1 → a_M τ1 A1 → l_W K d1 σ1 τ1 827 (l_lv K i) []) : l_W K d0 σ τ 573 (l_lv K i) [] := by
  obtain ⟨r, σ1, τ1, A1, e1, e2, k1, k2, k3⟩ := o_best  hA hC hM 
  refine l_aload_n hx 2 (i := 1) dL_law_573 rfl ?_
  refine l_iC hx (As := []) (met_X5_bestWindow (l_l K) (l_C K) (l_hC hx) e1) rfl cv_L_78 ⟨Nat.le_of_ble_eq_true rfl, Nat.le_of_ble_eq_true rfl⟩ ⟨rfl, rfl⟩ rfl rfl (Nat.le_of_ble_eq_true rfl) dL_law_574 ?_
  refine l_aload_n hx 1 (i := 2) dL_law_577 rfl ?_
  refine l_iM hx (As := []) (met_X6_bestWindow (l_l K) (l_M K) (l_hM hx) e2) rfl cv_L_81 ⟨Nat.le_of_ble_eq_true rfl, Nat.le_of_ble_eq_true rfl⟩ ⟨rfl, rfl⟩ rfl rfl (Nat.le_of_ble_eq_true rfl) dL_law_578 ?_
  refine l_eq hx (tgt := 827) dL_law_581 (by decide) ?_
  exact kk d0 σ1 τ1 A1 k1 k2 k3
theorem law_c16 {K : LC} {d0 : Drawn} {σ τ : zS} (hx : l_ok K) {i : Int} (h0 : 0 ≤ i) (h1 : i + 5 ≤ (l_L K : Int)) {A : zA} (hA : a_ok A) (hC : a_C σ A) (hM : a_M τ A) (kk : ∀ (d1 : Drawn) (σ1 τ1 : zS) (A1 : zA), a_ok A1 → a_C σ1 A1 → a_M τ1 A1 → l_W K d1 σ1 τ1 827 (l_lv K i) []) : l_W K d0 σ τ 586 (l_lv K i) [] := by
  obtain ⟨r, σ1, τ1, A1, e1, e2, k1, k2, k3⟩ := o_doubt (x := l_v K (i + 1)) hA hC hM l_v_zr
  refine l_aload_n hx 2 (i := 1) dL_law_586 rfl ?_
  refine l_arg hx 3 0 rfl rfl h0 h1 (j := 1) (by decide) dL_law_587 dL_law_588 dL_law_589 dL_law_590 dL_law_591 ?_
  refine l_iC hx (As := [.int (zi (l_v K (i + 1)))]) (met_X5_greatestDoubt (l_l K) (l_C K) (l_hC hx) e1) rfl cv_L_82 ⟨Nat.le_of_ble_eq_true rfl, Nat.le_of_ble_eq_true rfl⟩ ⟨rfl, rfl⟩ rfl rfl (Nat.le_of_ble_eq_true rfl) dL_law_592 ?_
  refine l_aload_n hx 1 (i := 2) dL_law_595 rfl ?_
  refine l_arg hx 3 0 rfl rfl h0 h1 (j := 1) (by decide) dL_law_596 dL_law_597 dL_law_598 dL_law_599 dL_law_600 ?_
  refine l_iM hx (As := [.int (zi (l_v K (i + 1)))]) (met_X6_greatestDoubt (l_l K) (l_M K) (l_hM hx) e2) rfl cv_L_85 ⟨Nat.le_of_ble_eq_true rfl, Nat.le_of_ble_eq_true rfl⟩ ⟨rfl, rfl⟩ rfl rfl (Nat.le_of_ble_eq_true rfl) dL_law_601 ?_
  refine l_eq hx (tgt := 827) dL_law_604 (by decide) ?_
  exact kk d0 σ1 τ1 A1 k1 k2 k3
theorem law_c17 {K : LC} {d0 : Drawn} {σ τ : zS} (hx : l_ok K) {i : Int} (h0 : 0 ≤ i) (h1 : i + 5 ≤ (l_L K : Int)) {A : zA} (hA : a_ok A) (hC : a_C σ A) (hM : a_M τ A) (kk : ∀ (d1 : Drawn) (σ1 τ1 : zS) (A1 : zA), a_ok A1 → a_C σ1 A1 → a_M τ1 A1 → l_W K d1 σ1 τ1 827 (l_lv K i) []) : l_W K d0 σ τ 609 (l_lv K i) [] := by
  obtain ⟨r, σ1, τ1, A1, e1, e2, k1, k2, k3⟩ := o_length  hA hC hM 
  refine l_aload_n hx 2 (i := 1) dL_law_609 rfl ?_
  refine l_iC hx (As := []) (met_X5_length (l_l K) (l_C K) (l_hC hx) e1) rfl cv_L_86 ⟨Nat.le_of_ble_eq_true rfl, Nat.le_of_ble_eq_true rfl⟩ ⟨rfl, rfl⟩ rfl rfl (Nat.le_of_ble_eq_true rfl) dL_law_610 ?_
  refine l_aload_n hx 1 (i := 2) dL_law_613 rfl ?_
  refine l_iM hx (As := []) (met_X6_length (l_l K) (l_M K) (l_hM hx) e2) rfl cv_L_89 ⟨Nat.le_of_ble_eq_true rfl, Nat.le_of_ble_eq_true rfl⟩ ⟨rfl, rfl⟩ rfl rfl (Nat.le_of_ble_eq_true rfl) dL_law_614 ?_
  refine l_eq hx (tgt := 827) dL_law_617 (by decide) ?_
  exact kk d0 σ1 τ1 A1 k1 k2 k3
theorem law_c18 {K : LC} {d0 : Drawn} {σ τ : zS} (hx : l_ok K) {i : Int} (h0 : 0 ≤ i) (h1 : i + 5 ≤ (l_L K : Int)) {A : zA} (hA : a_ok A) (hC : a_C σ A) (hM : a_M τ A) (kk : ∀ (d1 : Drawn) (σ1 τ1 : zS) (A1 : zA), a_ok A1 → a_C σ1 A1 → a_M τ1 A1 → l_W K d1 σ1 τ1 827 (l_lv K i) []) : l_W K d0 σ τ 622 (l_lv K i) [] := by
  obtain ⟨r, σ1, τ1, A1, e1, e2, k1, k2, k3⟩ := o_heard (x := l_v K (i + 1)) (c := l_v K (i + 2)) hA hC hM l_v_zr l_v_zr
  refine l_aload_n hx 2 (i := 1) dL_law_622 rfl ?_
  refine l_arg hx 3 0 rfl rfl h0 h1 (j := 1) (by decide) dL_law_623 dL_law_624 dL_law_625 dL_law_626 dL_law_627 ?_
  refine l_arg hx 3 0 rfl rfl h0 h1 (j := 2) (by decide) dL_law_628 dL_law_629 dL_law_630 dL_law_631 dL_law_632 ?_
  refine l_iC hx (As := [.int (zi (l_v K (i + 1))), .int (zi (l_v K (i + 2)))]) (met_X5_heard (l_l K) (l_C K) (l_hC hx) e1) rfl cv_L_90 ⟨Nat.le_of_ble_eq_true rfl, Nat.le_of_ble_eq_true rfl⟩ ⟨rfl, rfl⟩ rfl rfl (Nat.le_of_ble_eq_true rfl) dL_law_633 ?_
  refine l_aload_n hx 1 (i := 2) dL_law_636 rfl ?_
  refine l_arg hx 3 0 rfl rfl h0 h1 (j := 1) (by decide) dL_law_637 dL_law_638 dL_law_639 dL_law_640 dL_law_641 ?_
  refine l_arg hx 3 0 rfl rfl h0 h1 (j := 2) (by decide) dL_law_642 dL_law_643 dL_law_644 dL_law_645 dL_law_646 ?_
  refine l_iM hx (As := [.int (zi (l_v K (i + 1))), .int (zi (l_v K (i + 2)))]) (met_X6_heard (l_l K) (l_M K) (l_hM hx) e2) rfl cv_L_93 ⟨Nat.le_of_ble_eq_true rfl, Nat.le_of_ble_eq_true rfl⟩ ⟨rfl, rfl⟩ rfl rfl (Nat.le_of_ble_eq_true rfl) dL_law_647 ?_
  refine l_eq hx (tgt := 827) dL_law_650 (by decide) ?_
  exact kk d0 σ1 τ1 A1 k1 k2 k3
theorem law_c19 {K : LC} {d0 : Drawn} {σ τ : zS} (hx : l_ok K) {i : Int} (h0 : 0 ≤ i) (h1 : i + 5 ≤ (l_L K : Int)) {A : zA} (hA : a_ok A) (hC : a_C σ A) (hM : a_M τ A) (kk : ∀ (d1 : Drawn) (σ1 τ1 : zS) (A1 : zA), a_ok A1 → a_C σ1 A1 → a_M τ1 A1 → l_W K d1 σ1 τ1 827 (l_lv K i) []) : l_W K d0 σ τ 655 (l_lv K i) [] := by
  obtain ⟨r, σ1, τ1, A1, e1, e2, k1, k2, k3⟩ := o_where (x := l_v K (i + 1)) hA hC hM l_v_zr
  refine l_aload_n hx 2 (i := 1) dL_law_655 rfl ?_
  refine l_arg hx 3 0 rfl rfl h0 h1 (j := 1) (by decide) dL_law_656 dL_law_657 dL_law_658 dL_law_659 dL_law_660 ?_
  refine l_iC hx (As := [.int (zi (l_v K (i + 1)))]) (met_X5_where (l_l K) (l_C K) (l_hC hx) e1) rfl cv_L_94 ⟨Nat.le_of_ble_eq_true rfl, Nat.le_of_ble_eq_true rfl⟩ ⟨rfl, rfl⟩ rfl rfl (Nat.le_of_ble_eq_true rfl) dL_law_661 ?_
  refine l_aload_n hx 1 (i := 2) dL_law_664 rfl ?_
  refine l_arg hx 3 0 rfl rfl h0 h1 (j := 1) (by decide) dL_law_665 dL_law_666 dL_law_667 dL_law_668 dL_law_669 ?_
  refine l_iM hx (As := [.int (zi (l_v K (i + 1)))]) (met_X6_where (l_l K) (l_M K) (l_hM hx) e2) rfl cv_L_97 ⟨Nat.le_of_ble_eq_true rfl, Nat.le_of_ble_eq_true rfl⟩ ⟨rfl, rfl⟩ rfl rfl (Nat.le_of_ble_eq_true rfl) dL_law_670 ?_
  refine l_eq hx (tgt := 827) dL_law_673 (by decide) ?_
  exact kk d0 σ1 τ1 A1 k1 k2 k3
theorem law_c20 {K : LC} {d0 : Drawn} {σ τ : zS} (hx : l_ok K) {i : Int} (h0 : 0 ≤ i) (h1 : i + 5 ≤ (l_L K : Int)) {A : zA} (hA : a_ok A) (hC : a_C σ A) (hM : a_M τ A) (kk : ∀ (d1 : Drawn) (σ1 τ1 : zS) (A1 : zA), a_ok A1 → a_C σ1 A1 → a_M τ1 A1 → l_W K d1 σ1 τ1 827 (l_lv K i) []) : l_W K d0 σ τ 678 (l_lv K i) [] := by
  obtain ⟨r, σ1, τ1, A1, e1, e2, k1, k2, k3⟩ := o_clicks (x := l_v K (i + 1)) hA hC hM l_v_zr
  refine l_aload_n hx 2 (i := 1) dL_law_678 rfl ?_
  refine l_arg hx 3 0 rfl rfl h0 h1 (j := 1) (by decide) dL_law_679 dL_law_680 dL_law_681 dL_law_682 dL_law_683 ?_
  refine l_iC hx (As := [.int (zi (l_v K (i + 1)))]) (met_X5_clicks (l_l K) (l_C K) (l_hC hx) e1) rfl cv_L_98 ⟨Nat.le_of_ble_eq_true rfl, Nat.le_of_ble_eq_true rfl⟩ ⟨rfl, rfl⟩ rfl rfl (Nat.le_of_ble_eq_true rfl) dL_law_684 ?_
  refine l_aload_n hx 1 (i := 2) dL_law_687 rfl ?_
  refine l_arg hx 3 0 rfl rfl h0 h1 (j := 1) (by decide) dL_law_688 dL_law_689 dL_law_690 dL_law_691 dL_law_692 ?_
  refine l_iM hx (As := [.int (zi (l_v K (i + 1)))]) (met_X6_clicks (l_l K) (l_M K) (l_hM hx) e2) rfl cv_L_101 ⟨Nat.le_of_ble_eq_true rfl, Nat.le_of_ble_eq_true rfl⟩ ⟨rfl, rfl⟩ rfl rfl (Nat.le_of_ble_eq_true rfl) dL_law_693 ?_
  refine l_eq hx (tgt := 827) dL_law_696 (by decide) ?_
  exact kk d0 σ1 τ1 A1 k1 k2 k3
theorem law_c21 {K : LC} {d0 : Drawn} {σ τ : zS} (hx : l_ok K) {i : Int} (h0 : 0 ≤ i) (h1 : i + 5 ≤ (l_L K : Int)) {A : zA} (hA : a_ok A) (hC : a_C σ A) (hM : a_M τ A) (kk : ∀ (d1 : Drawn) (σ1 τ1 : zS) (A1 : zA), a_ok A1 → a_C σ1 A1 → a_M τ1 A1 → l_W K d1 σ1 τ1 827 (l_lv K i) []) : l_W K d0 σ τ 701 (l_lv K i) [] := by
  obtain ⟨r, σ1, τ1, A1, e1, e2, k1, k2, k3⟩ := o_loudness hA hC hM
  refine l_aload_n hx 2 (i := 1) dL_law_701 rfl ?_
  refine l_fC hx (met_X5_loudness (l_l K) (l_C K) (l_hC hx) e1) rfl cv_L_102 ⟨Nat.le_of_ble_eq_true rfl, Nat.le_of_ble_eq_true rfl⟩ ⟨rfl, rfl⟩ (Nat.le_of_ble_eq_true rfl) dL_law_702 (fun r1 d1 hf1 => ?_)
  refine l_f2d hx dL_law_705 (fun x1 d2 ha1 => ?_)
  refine l_dstore hx (lv' := (4, .double x1) :: l_lv K i) dL_law_706 (by decide) rfl ?_
  refine l_aload_n hx 2 (i := 2) dL_law_708 rfl ?_
  refine l_fM hx (met_X6_loudness (l_l K) (l_M K) (l_hM hx) e2) rfl cv_L_106 ⟨Nat.le_of_ble_eq_true rfl, Nat.le_of_ble_eq_true rfl⟩ ⟨rfl, rfl⟩ (Nat.le_of_ble_eq_true rfl) dL_law_709 (fun r2 d3 hf2 => ?_)
  refine l_f2d hx dL_law_712 (fun x2 d4 ha2 => ?_)
  refine l_dstore hx (lv' := (6, .double x2) :: (4, .double x1) :: l_lv K i) dL_law_713 (by decide) rfl ?_
  have hend : l_W K d4 σ1 τ1 741 ((6, .double x2) :: (4, .double x1) :: l_lv K i) [] := by
    refine l_goto hx (tgt := 827) dL_law_741 (by decide) ?_
    refine l_sub [2, 3, 4, 5] rfl ?_
    exact kk d4 σ1 τ1 A1 k1 k2 k3
  refine l_dload hx 1 dL_law_715 rfl ?_
  refine l_dload hx 0 dL_law_717 rfl ?_
  refine l_dcmp hx dL_law_719 ?_
  rcases z_falike hf1 hf2 ha1 ha2 with hc | ⟨hc1, hc2⟩
  · exact l_if_eq hx (tgt := 741) dL_law_720 (by decide) (fun _ => hend) (fun h => absurd hc h)
  · refine l_if_eq hx (tgt := 741) dL_law_720 (by decide) (fun _ => hend) (fun _ => ?_)
    refine l_dload hx 1 dL_law_723 rfl ?_
    refine l_dload hx 1 dL_law_725 rfl ?_
    refine l_dcmp hx dL_law_727 ?_
    refine l_if_eq hx (tgt := 739) dL_law_728 (by decide) (fun h => absurd h hc1) (fun _ => ?_)
    refine l_dload hx 0 dL_law_731 rfl ?_
    refine l_dload hx 0 dL_law_733 rfl ?_
    refine l_dcmp hx dL_law_735 ?_
    exact l_if_ne hx (tgt := 741) dL_law_736 (by decide) (fun _ => hend) (fun h => absurd h hc2)
theorem law_c22 {K : LC} {d0 : Drawn} {σ τ : zS} (hx : l_ok K) {i : Int} (h0 : 0 ≤ i) (h1 : i + 5 ≤ (l_L K : Int)) {A : zA} (hA : a_ok A) (hC : a_C σ A) (hM : a_M τ A) (kk : ∀ (d1 : Drawn) (σ1 τ1 : zS) (A1 : zA), a_ok A1 → a_C σ1 A1 → a_M τ1 A1 → l_W K d1 σ1 τ1 827 (l_lv K i) []) : l_W K d0 σ τ 744 (l_lv K i) [] := by
  obtain ⟨r, σ1, τ1, A1, e1, e2, k1, k2, k3⟩ := o_share hA hC hM
  refine l_aload_n hx 2 (i := 1) dL_law_744 rfl ?_
  refine l_fC hx (met_X5_share (l_l K) (l_C K) (l_hC hx) e1) rfl cv_L_107 ⟨Nat.le_of_ble_eq_true rfl, Nat.le_of_ble_eq_true rfl⟩ ⟨rfl, rfl⟩ (Nat.le_of_ble_eq_true rfl) dL_law_745 (fun r1 d1 hf1 => ?_)
  refine l_f2d hx dL_law_748 (fun x1 d2 ha1 => ?_)
  refine l_dstore hx (lv' := (4, .double x1) :: l_lv K i) dL_law_749 (by decide) rfl ?_
  refine l_aload_n hx 2 (i := 2) dL_law_751 rfl ?_
  refine l_fM hx (met_X6_share (l_l K) (l_M K) (l_hM hx) e2) rfl cv_L_110 ⟨Nat.le_of_ble_eq_true rfl, Nat.le_of_ble_eq_true rfl⟩ ⟨rfl, rfl⟩ (Nat.le_of_ble_eq_true rfl) dL_law_752 (fun r2 d3 hf2 => ?_)
  refine l_f2d hx dL_law_755 (fun x2 d4 ha2 => ?_)
  refine l_dstore hx (lv' := (6, .double x2) :: (4, .double x1) :: l_lv K i) dL_law_756 (by decide) rfl ?_
  have hend : l_W K d4 σ1 τ1 784 ((6, .double x2) :: (4, .double x1) :: l_lv K i) [] := by
    refine l_goto hx (tgt := 827) dL_law_784 (by decide) ?_
    refine l_sub [2, 3, 4, 5] rfl ?_
    exact kk d4 σ1 τ1 A1 k1 k2 k3
  refine l_dload hx 1 dL_law_758 rfl ?_
  refine l_dload hx 0 dL_law_760 rfl ?_
  refine l_dcmp hx dL_law_762 ?_
  rcases z_falike hf1 hf2 ha1 ha2 with hc | ⟨hc1, hc2⟩
  · exact l_if_eq hx (tgt := 784) dL_law_763 (by decide) (fun _ => hend) (fun h => absurd hc h)
  · refine l_if_eq hx (tgt := 784) dL_law_763 (by decide) (fun _ => hend) (fun _ => ?_)
    refine l_dload hx 1 dL_law_766 rfl ?_
    refine l_dload hx 1 dL_law_768 rfl ?_
    refine l_dcmp hx dL_law_770 ?_
    refine l_if_eq hx (tgt := 782) dL_law_771 (by decide) (fun h => absurd h hc1) (fun _ => ?_)
    refine l_dload hx 0 dL_law_774 rfl ?_
    refine l_dload hx 0 dL_law_776 rfl ?_
    refine l_dcmp hx dL_law_778 ?_
    exact l_if_ne hx (tgt := 784) dL_law_779 (by decide) (fun _ => hend) (fun h => absurd h hc2)
theorem law_c23 {K : LC} {d0 : Drawn} {σ τ : zS} (hx : l_ok K) {i : Int} (h0 : 0 ≤ i) (h1 : i + 5 ≤ (l_L K : Int)) {A : zA} (hA : a_ok A) (hC : a_C σ A) (hM : a_M τ A) (kk : ∀ (d1 : Drawn) (σ1 τ1 : zS) (A1 : zA), a_ok A1 → a_C σ1 A1 → a_M τ1 A1 → l_W K d1 σ1 τ1 827 (l_lv K i) []) : l_W K d0 σ τ 787 (l_lv K i) [] := by
  obtain ⟨r, σ1, τ1, A1, e1, e2, k1, k2, k3⟩ := o_silence  hA hC hM 
  refine l_aload_n hx 2 (i := 1) dL_law_787 rfl ?_
  refine l_iC hx (As := []) (met_X5_silence (l_l K) (l_C K) (l_hC hx) e1) rfl cv_L_111 ⟨Nat.le_of_ble_eq_true rfl, Nat.le_of_ble_eq_true rfl⟩ ⟨rfl, rfl⟩ rfl rfl (Nat.le_of_ble_eq_true rfl) dL_law_788 ?_
  refine l_aload_n hx 1 (i := 2) dL_law_791 rfl ?_
  refine l_iM hx (As := []) (met_X6_silence (l_l K) (l_M K) (l_hM hx) e2) rfl cv_L_114 ⟨Nat.le_of_ble_eq_true rfl, Nat.le_of_ble_eq_true rfl⟩ ⟨rfl, rfl⟩ rfl rfl (Nat.le_of_ble_eq_true rfl) dL_law_792 ?_
  refine l_eq hx (tgt := 827) dL_law_795 (by decide) ?_
  exact kk d0 σ1 τ1 A1 k1 k2 k3
theorem law_c24 {K : LC} {d0 : Drawn} {σ τ : zS} (hx : l_ok K) {i : Int} (h0 : 0 ≤ i) (h1 : i + 5 ≤ (l_L K : Int)) {A : zA} (hA : a_ok A) (hC : a_C σ A) (hM : a_M τ A) (kk : ∀ (d1 : Drawn) (σ1 τ1 : zS) (A1 : zA), a_ok A1 → a_C σ1 A1 → a_M τ1 A1 → l_W K d1 σ1 τ1 827 (l_lv K i) []) : l_W K d0 σ τ 800 (l_lv K i) [] := by
  obtain ⟨r, σ1, τ1, A1, e1, e2, k1, k2, k3⟩ := o_undo  hA hC hM 
  refine l_aload_n hx 2 (i := 1) dL_law_800 rfl ?_
  refine l_iC hx (As := []) (met_X5_undo (l_l K) (l_C K) (l_hC hx) e1) rfl cv_L_115 ⟨Nat.le_of_ble_eq_true rfl, Nat.le_of_ble_eq_true rfl⟩ ⟨rfl, rfl⟩ rfl rfl (Nat.le_of_ble_eq_true rfl) dL_law_801 ?_
  refine l_aload_n hx 1 (i := 2) dL_law_804 rfl ?_
  refine l_iM hx (As := []) (met_X6_undo (l_l K) (l_M K) (l_hM hx) e2) rfl cv_L_118 ⟨Nat.le_of_ble_eq_true rfl, Nat.le_of_ble_eq_true rfl⟩ ⟨rfl, rfl⟩ rfl rfl (Nat.le_of_ble_eq_true rfl) dL_law_805 ?_
  refine l_eq hx (tgt := 827) dL_law_808 (by decide) ?_
  exact kk d0 σ1 τ1 A1 k1 k2 k3
theorem law_c25 {K : LC} {d0 : Drawn} {σ τ : zS} (hx : l_ok K) {i : Int} (h0 : 0 ≤ i) (h1 : i + 5 ≤ (l_L K : Int)) {A : zA} (hA : a_ok A) (hC : a_C σ A) (hM : a_M τ A) (kk : ∀ (d1 : Drawn) (σ1 τ1 : zS) (A1 : zA), a_ok A1 → a_C σ1 A1 → a_M τ1 A1 → l_W K d1 σ1 τ1 827 (l_lv K i) []) : l_W K d0 σ τ 813 (l_lv K i) [] := by
  obtain ⟨r, σ1, τ1, A1, e1, e2, k1, k2, k3⟩ := o_print  hA hC hM 
  refine l_aload_n hx 2 (i := 1) dL_law_813 rfl ?_
  refine l_lC hx (As := []) (met_X5_fingerprint (l_l K) (l_C K) (l_hC hx) e1) rfl cv_L_119 ⟨Nat.le_of_ble_eq_true rfl, Nat.le_of_ble_eq_true rfl⟩ ⟨rfl, rfl⟩ rfl rfl (Nat.le_of_ble_eq_true rfl) dL_law_814 ?_
  refine l_aload_n hx 1 (i := 2) dL_law_817 rfl ?_
  refine l_lM hx (As := []) (met_X6_fingerprint (l_l K) (l_M K) (l_hM hx) e2) rfl cv_L_123 ⟨Nat.le_of_ble_eq_true rfl, Nat.le_of_ble_eq_true rfl⟩ ⟨rfl, rfl⟩ rfl rfl (Nat.le_of_ble_eq_true rfl) dL_law_818 ?_
  refine l_lcmp hx dL_law_821 ?_
  exact l_if_eq hx (tgt := 827) dL_law_822 (by decide) (fun _ => kk d0 σ1 τ1 A1 k1 k2 k3) (fun h => absurd (l_cmp0 _) h)
