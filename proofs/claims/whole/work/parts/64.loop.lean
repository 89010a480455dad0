/-! THE LAW: its loop -/
theorem law_loop {K : LC} (hx : l_ok K) (hL : l_L K ≤ 2560) : ∀ (N : Nat) (i : Int) (d0 : Drawn) (σ τ : zS) (A : zA), (l_L K : Int) - i < N → 0 ≤ i → i ≤ 2560 → a_ok A → a_C σ A → a_M τ A → l_W K d0 σ τ 18 (l_lv K i) [] := by
  intro N
  induction N with
  | zero =>
    intro i d0 σ τ A hN h0 hi hA hC hM
    refine l_iload_n hx 0 (i := 3) dL_law_18 rfl ?_
    refine l_aload_n hx 3 (i := 0) dL_law_19 rfl ?_
    refine l_slen hx dL_law_20 ?_
    refine l_iconst hx (v := 5) dL_law_21 ?_
    refine l_isub hx dL_law_22 ?_
    refine l_gt hx (by unfold zr; omega) (by unfold zr; omega) (tgt := 833) dL_law_23 (by decide) (fun _ => ?_) (fun h => absurd (show (l_L K : Int) - 5 < i by omega) h)
    refine l_iconst hx (v := 1) dL_law_833 ?_
    exact l_ret hx dL_law_834
  | succ N ih =>
    intro i d0 σ τ A hN h0 hi hA hC hM
    refine l_iload_n hx 0 (i := 3) dL_law_18 rfl ?_
    refine l_aload_n hx 3 (i := 0) dL_law_19 rfl ?_
    refine l_slen hx dL_law_20 ?_
    refine l_iconst hx (v := 5) dL_law_21 ?_
    refine l_isub hx dL_law_22 ?_
    refine l_gt hx (by unfold zr; omega) (by unfold zr; omega) (tgt := 833) dL_law_23 (by decide) (fun _ => ?_) (fun h => ?_)
    · refine l_iconst hx (v := 1) dL_law_833 ?_
      exact l_ret hx dL_law_834
    · have h1 : i + 5 ≤ (l_L K : Int) := by omega
      have kk : ∀ (d1 : Drawn) (σ1 τ1 : zS) (A1 : zA), a_ok A1 → a_C σ1 A1 → a_M τ1 A1 → l_W K d1 σ1 τ1 827 (l_lv K i) [] := by
        intro d1 σ1 τ1 A1 k1 k2 k3
        refine l_iinc hx 0 (lv' := l_lv K (i + 5)) dL_law_827 rfl (by decide) rfl ?_
        refine l_goto hx (tgt := 18) dL_law_830 (by decide) ?_
        exact ih (i + 5) d1 σ1 τ1 A1 (by omega) (by omega) (by omega) k1 k2 k3
      refine l_aload_n hx 3 (i := 0) dL_law_26 rfl ?_
      refine l_iload_n hx 0 (i := 3) dL_law_27 rfl ?_
      refine l_sld hx h0 (by omega) dL_law_28 ?_
      refine l_bipush hx (v := 31) dL_law_29 rfl ?_
      refine l_iand hx dL_law_31 ?_
      generalize l_xs K i.toNat &&& zi 31 = x
      by_cases c0 : x.toInt = 0
      · refine l_tsIn hx (tgt := 152) (off := 120) dL_law_32 (by omega) (by omega) (by rw [c0]; rfl) (by decide) ?_
        exact law_c0 hx h0 h1 hA hC hM kk
      by_cases c1 : x.toInt = 1
      · refine l_tsIn hx (tgt := 175) (off := 143) dL_law_32 (by omega) (by omega) (by rw [c1]; rfl) (by decide) ?_
        exact law_c1 hx h0 h1 hA hC hM kk
      by_cases c2 : x.toInt = 2
      · refine l_tsIn hx (tgt := 188) (off := 156) dL_law_32 (by omega) (by omega) (by rw [c2]; rfl) (by decide) ?_
        exact law_c2 hx h0 h1 hA hC hM kk
      by_cases c3 : x.toInt = 3
      · refine l_tsIn hx (tgt := 201) (off := 169) dL_law_32 (by omega) (by omega) (by rw [c3]; rfl) (by decide) ?_
        exact law_c3 hx h0 h1 hA hC hM kk
      by_cases c4 : x.toInt = 4
      · refine l_tsIn hx (tgt := 234) (off := 202) dL_law_32 (by omega) (by omega) (by rw [c4]; rfl) (by decide) ?_
        exact law_c4 hx h0 h1 hA hC hM kk
      by_cases c5 : x.toInt = 5
      · refine l_tsIn hx (tgt := 267) (off := 235) dL_law_32 (by omega) (by omega) (by rw [c5]; rfl) (by decide) ?_
        exact law_c5 hx h0 h1 hA hC hM kk
      by_cases c6 : x.toInt = 6
      · refine l_tsIn hx (tgt := 320) (off := 288) dL_law_32 (by omega) (by omega) (by rw [c6]; rfl) (by decide) ?_
        exact law_c6 hx h0 h1 hA hC hM kk
      by_cases c7 : x.toInt = 7
      · refine l_tsIn hx (tgt := 343) (off := 311) dL_law_32 (by omega) (by omega) (by rw [c7]; rfl) (by decide) ?_
        exact law_c7 hx h0 h1 hA hC hM kk
      by_cases c8 : x.toInt = 8
      · refine l_tsIn hx (tgt := 392) (off := 360) dL_law_32 (by omega) (by omega) (by rw [c8]; rfl) (by decide) ?_
        exact law_c8 hx h0 h1 hA hC hM kk
      by_cases c9 : x.toInt = 9
      · refine l_tsIn hx (tgt := 425) (off := 393) dL_law_32 (by omega) (by omega) (by rw [c9]; rfl) (by decide) ?_
        exact law_c9 hx h0 h1 hA hC hM kk
      by_cases c10 : x.toInt = 10
      · refine l_tsIn hx (tgt := 448) (off := 416) dL_law_32 (by omega) (by omega) (by rw [c10]; rfl) (by decide) ?_
        exact law_c10 hx h0 h1 hA hC hM kk
      by_cases c11 : x.toInt = 11
      · refine l_tsIn hx (tgt := 481) (off := 449) dL_law_32 (by omega) (by omega) (by rw [c11]; rfl) (by decide) ?_
        exact law_c11 hx h0 h1 hA hC hM kk
      by_cases c12 : x.toInt = 12
      · refine l_tsIn hx (tgt := 504) (off := 472) dL_law_32 (by omega) (by omega) (by rw [c12]; rfl) (by decide) ?_
        exact law_c12 hx h0 h1 hA hC hM kk
      by_cases c13 : x.toInt = 13
      · refine l_tsIn hx (tgt := 517) (off := 485) dL_law_32 (by omega) (by omega) (by rw [c13]; rfl) (by decide) ?_
        exact law_c13 hx h0 h1 hA hC hM kk
      by_cases c14 : x.toInt = 14
      · refine l_tsIn hx (tgt := 550) (off := 518) dL_law_32 (by omega) (by omega) (by rw [c14]; rfl) (by decide) ?_
        exact law_c14 hx h0 h1 hA hC hM kk
      by_cases c15 : x.toInt = 15
      · refine l_tsIn hx (tgt := 573) (off := 541) dL_law_32 (by omega) (by omega) (by rw [c15]; rfl) (by decide) ?_
        exact law_c15 hx h0 h1 hA hC hM kk
      by_cases c16 : x.toInt = 16
      · refine l_tsIn hx (tgt := 586) (off := 554) dL_law_32 (by omega) (by omega) (by rw [c16]; rfl) (by decide) ?_
        exact law_c16 hx h0 h1 hA hC hM kk
      by_cases c17 : x.toInt = 17
      · refine l_tsIn hx (tgt := 609) (off := 577) dL_law_32 (by omega) (by omega) (by rw [c17]; rfl) (by decide) ?_
        exact law_c17 hx h0 h1 hA hC hM kk
      by_cases c18 : x.toInt = 18
      · refine l_tsIn hx (tgt := 622) (off := 590) dL_law_32 (by omega) (by omega) (by rw [c18]; rfl) (by decide) ?_
        exact law_c18 hx h0 h1 hA hC hM kk
      by_cases c19 : x.toInt = 19
      · refine l_tsIn hx (tgt := 655) (off := 623) dL_law_32 (by omega) (by omega) (by rw [c19]; rfl) (by decide) ?_
        exact law_c19 hx h0 h1 hA hC hM kk
      by_cases c20 : x.toInt = 20
      · refine l_tsIn hx (tgt := 678) (off := 646) dL_law_32 (by omega) (by omega) (by rw [c20]; rfl) (by decide) ?_
        exact law_c20 hx h0 h1 hA hC hM kk
      by_cases c21 : x.toInt = 21
      · refine l_tsIn hx (tgt := 701) (off := 669) dL_law_32 (by omega) (by omega) (by rw [c21]; rfl) (by decide) ?_
        exact law_c21 hx h0 h1 hA hC hM kk
      by_cases c22 : x.toInt = 22
      · refine l_tsIn hx (tgt := 744) (off := 712) dL_law_32 (by omega) (by omega) (by rw [c22]; rfl) (by decide) ?_
        exact law_c22 hx h0 h1 hA hC hM kk
      by_cases c23 : x.toInt = 23
      · refine l_tsIn hx (tgt := 787) (off := 755) dL_law_32 (by omega) (by omega) (by rw [c23]; rfl) (by decide) ?_
        exact law_c23 hx h0 h1 hA hC hM kk
      by_cases c24 : x.toInt = 24
      · refine l_tsIn hx (tgt := 800) (off := 768) dL_law_32 (by omega) (by omega) (by rw [c24]; rfl) (by decide) ?_
        exact law_c24 hx h0 h1 hA hC hM kk
      by_cases c25 : x.toInt = 25
      · refine l_tsIn hx (tgt := 813) (off := 781) dL_law_32 (by omega) (by omega) (by rw [c25]; rfl) (by decide) ?_
        exact law_c25 hx h0 h1 hA hC hM kk
      refine l_tsOut hx (tgt := 827) dL_law_32 (by omega) (by decide) ?_
      exact kk d0 σ τ A hA hC hM
