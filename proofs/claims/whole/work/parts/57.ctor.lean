/-! the constructors, by program: the reference -/
theorem dX6_init_0 : decode cX6_init 0 = .ok (.aload_n 0, 1) := by decide +kernel
theorem dX6_init_1 : decode cX6_init 1 = .ok (.invokespecial 1, 3) := by decide +kernel
theorem dX6_init_4 : decode cX6_init 4 = .ok (.aload_n 0, 1) := by decide +kernel
theorem dX6_init_5 : decode cX6_init 5 = .ok (.sipush 320, 3) := by decide +kernel
theorem dX6_init_8 : decode cX6_init 8 = .ok (.newarray .int, 2) := by decide +kernel
theorem dX6_init_10 : decode cX6_init 10 = .ok (.putfield 7, 3) := by decide +kernel
theorem dX6_init_13 : decode cX6_init 13 = .ok (.aload_n 0, 1) := by decide +kernel
theorem dX6_init_14 : decode cX6_init 14 = .ok (.sipush 1280, 3) := by decide +kernel
theorem dX6_init_17 : decode cX6_init 17 = .ok (.newarray .int, 2) := by decide +kernel
theorem dX6_init_19 : decode cX6_init 19 = .ok (.putfield 13, 3) := by decide +kernel
theorem dX6_init_22 : decode cX6_init 22 = .ok (.aload_n 0, 1) := by decide +kernel
theorem dX6_init_23 : decode cX6_init 23 = .ok (.bipush 120, 2) := by decide +kernel
theorem dX6_init_25 : decode cX6_init 25 = .ok (.newarray .int, 2) := by decide +kernel
theorem dX6_init_27 : decode cX6_init 27 = .ok (.putfield 16, 3) := by decide +kernel
theorem dX6_init_30 : decode cX6_init 30 = .ok (.aload_n 0, 1) := by decide +kernel
theorem dX6_init_31 : decode cX6_init 31 = .ok (.bipush 120, 2) := by decide +kernel
theorem dX6_init_33 : decode cX6_init 33 = .ok (.newarray .int, 2) := by decide +kernel
theorem dX6_init_35 : decode cX6_init 35 = .ok (.putfield 19, 3) := by decide +kernel
theorem dX6_init_38 : decode cX6_init 38 = .ok (.aload_n 0, 1) := by decide +kernel
theorem dX6_init_39 : decode cX6_init 39 = .ok (.bipush 100, 2) := by decide +kernel
theorem dX6_init_41 : decode cX6_init 41 = .ok (.newarray .int, 2) := by decide +kernel
theorem dX6_init_43 : decode cX6_init 43 = .ok (.putfield 22, 3) := by decide +kernel
theorem dX6_init_46 : decode cX6_init 46 = .ok (.aload_n 0, 1) := by decide +kernel
theorem dX6_init_47 : decode cX6_init 47 = .ok (.bipush 100, 2) := by decide +kernel
theorem dX6_init_49 : decode cX6_init 49 = .ok (.newarray .int, 2) := by decide +kernel
theorem dX6_init_51 : decode cX6_init 51 = .ok (.putfield 25, 3) := by decide +kernel
theorem dX6_init_54 : decode cX6_init 54 = .ok (.aload_n 0, 1) := by decide +kernel
theorem dX6_init_55 : decode cX6_init 55 = .ok (.sipush 1400, 3) := by decide +kernel
theorem dX6_init_58 : decode cX6_init 58 = .ok (.newarray .int, 2) := by decide +kernel
theorem dX6_init_60 : decode cX6_init 60 = .ok (.putfield 28, 3) := by decide +kernel
theorem dX6_init_63 : decode cX6_init 63 = .ok (.aload_n 0, 1) := by decide +kernel
theorem dX6_init_64 : decode cX6_init 64 = .ok (.sipush 1400, 3) := by decide +kernel
theorem dX6_init_67 : decode cX6_init 67 = .ok (.newarray .int, 2) := by decide +kernel
theorem dX6_init_69 : decode cX6_init 69 = .ok (.putfield 31, 3) := by decide +kernel
theorem dX6_init_72 : decode cX6_init 72 = .ok (.aload_n 0, 1) := by decide +kernel
theorem dX6_init_73 : decode cX6_init 73 = .ok (.sipush 200, 3) := by decide +kernel
theorem dX6_init_76 : decode cX6_init 76 = .ok (.newarray .int, 2) := by decide +kernel
theorem dX6_init_78 : decode cX6_init 78 = .ok (.putfield 34, 3) := by decide +kernel
theorem dX6_init_81 : decode cX6_init 81 = .ok (.aload_n 0, 1) := by decide +kernel
theorem dX6_init_82 : decode cX6_init 82 = .ok (.getfield 7, 3) := by decide +kernel
theorem dX6_init_85 : decode cX6_init 85 = .ok (.iconst 0, 1) := by decide +kernel
theorem dX6_init_86 : decode cX6_init 86 = .ok (.bipush 30, 2) := by decide +kernel
theorem dX6_init_88 : decode cX6_init 88 = .ok (.iastore, 1) := by decide +kernel
theorem dX6_init_89 : decode cX6_init 89 = .ok (.aload_n 0, 1) := by decide +kernel
theorem dX6_init_90 : decode cX6_init 90 = .ok (.getfield 7, 3) := by decide +kernel
theorem dX6_init_93 : decode cX6_init 93 = .ok (.iconst 1, 1) := by decide +kernel
theorem dX6_init_94 : decode cX6_init 94 = .ok (.iconst 1, 1) := by decide +kernel
theorem dX6_init_95 : decode cX6_init 95 = .ok (.iastore, 1) := by decide +kernel
theorem dX6_init_96 : decode cX6_init 96 = .ok (.aload_n 0, 1) := by decide +kernel
theorem dX6_init_97 : decode cX6_init 97 = .ok (.getfield 7, 3) := by decide +kernel
theorem dX6_init_100 : decode cX6_init 100 = .ok (.iconst 2, 1) := by decide +kernel
theorem dX6_init_101 : decode cX6_init 101 = .ok (.iconst 5, 1) := by decide +kernel
theorem dX6_init_102 : decode cX6_init 102 = .ok (.iastore, 1) := by decide +kernel
theorem dX6_init_103 : decode cX6_init 103 = .ok (.aload_n 0, 1) := by decide +kernel
theorem dX6_init_104 : decode cX6_init 104 = .ok (.getfield 7, 3) := by decide +kernel
theorem dX6_init_107 : decode cX6_init 107 = .ok (.iconst 3, 1) := by decide +kernel
theorem dX6_init_108 : decode cX6_init 108 = .ok (.iconst 4, 1) := by decide +kernel
theorem dX6_init_109 : decode cX6_init 109 = .ok (.iastore, 1) := by decide +kernel
theorem dX6_init_110 : decode cX6_init 110 = .ok (.aload_n 0, 1) := by decide +kernel
theorem dX6_init_111 : decode cX6_init 111 = .ok (.getfield 7, 3) := by decide +kernel
theorem dX6_init_114 : decode cX6_init 114 = .ok (.iconst 4, 1) := by decide +kernel
theorem dX6_init_115 : decode cX6_init 115 = .ok (.bipush 50, 2) := by decide +kernel
theorem dX6_init_117 : decode cX6_init 117 = .ok (.iastore, 1) := by decide +kernel
theorem dX6_init_118 : decode cX6_init 118 = .ok (.aload_n 0, 1) := by decide +kernel
theorem dX6_init_119 : decode cX6_init 119 = .ok (.getfield 7, 3) := by decide +kernel
theorem dX6_init_122 : decode cX6_init 122 = .ok (.iconst 5, 1) := by decide +kernel
theorem dX6_init_123 : decode cX6_init 123 = .ok (.bipush 6, 2) := by decide +kernel
theorem dX6_init_125 : decode cX6_init 125 = .ok (.iastore, 1) := by decide +kernel
theorem dX6_init_126 : decode cX6_init 126 = .ok (.aload_n 0, 1) := by decide +kernel
theorem dX6_init_127 : decode cX6_init 127 = .ok (.getfield 7, 3) := by decide +kernel
theorem dX6_init_130 : decode cX6_init 130 = .ok (.bipush 6, 2) := by decide +kernel
theorem dX6_init_132 : decode cX6_init 132 = .ok (.iconst 2, 1) := by decide +kernel
theorem dX6_init_133 : decode cX6_init 133 = .ok (.iastore, 1) := by decide +kernel
theorem dX6_init_134 : decode cX6_init 134 = .ok (.return_, 1) := by decide +kernel
def wd_X6 (g : zG) (h0 : Nat) (u : Nat → Nat) : va_W := [(h0, .inr (6, [.ref (u 1), .ref (u 2), .int 0, .ref (u 3), .int 0, .int 0, .int 0, .int 0, .int 0, .ref (u 4), .ref (u 5), .ref (u 6), .int 0, .ref (u 7), .ref (u 8), .int 0, .ref (u 9), .int 0, .int 0])), (u 1, k_I g 320 (fun b => if b = 6 then 2 else (fun b => if b = 5 then 6 else (fun b => if b = 4 then 50 else (fun b => if b = 3 then 4 else (fun b => if b = 2 then 5 else (fun b => if b = 1 then 1 else (fun b => if b = 0 then 30 else k_0 b) b) b) b) b) b) b)), (u 2, k_I g 1280 k_0), (u 3, k_I g 120 k_0), (u 4, k_I g 120 k_0), (u 5, k_I g 100 k_0), (u 6, k_I g 100 k_0), (u 7, k_I g 1400 k_0), (u 8, k_I g 1400 k_0), (u 9, k_I g 200 k_0)]
abbrev rm_X6_init : Room := { frames := 1, cells := 9, slots := 5040, locals := 12 }
set_option maxRecDepth 100000 in
set_option maxHeartbeats 4000000 in
theorem met_X6_init (l : Launch) (g : zG) (gs h0 : Nat) : k_Met l yX6_init cX6_init 1 rm_X6_init g gs h0 (.inr (6, [.null, .null, .int 0, .null, .int 0, .int 0, .int 0, .int 0, .int 0, .null, .null, .null, .int 0, .null, .null, .int 0, .null, .int 0, .int 0])) (wd_X6 g h0) := by
  refine k_enter (own := RX6) (by decide) rfl rfl (by decide) (fun C hx hl hg hR hn hq => ?_)
  subst hg
  subst hl
  refine k_aload_n hx 0 dX6_init_0 rfl ?_
  refine k_obj hx wm_X6_1 win_O wc_O (by rw [hR]; exact ⟨Nat.le_of_ble_eq_true rfl, Nat.le_of_ble_eq_true rfl⟩) dX6_init_1 ?_
  refine k_aload_n hx 0 dX6_init_4 rfl ?_
  refine k_sipush hx (v := 320) dX6_init_5 rfl ?_
  refine k_newI hx (N := 320) wa_I (by decide) rfl (by decide) (by rw [hR]; exact ⟨Nat.le_of_ble_eq_true rfl, Nat.le_of_ble_eq_true rfl⟩) dX6_init_8 (fun q1 => ?_)
  show k_W C [(h0, .inr (6, [.null, .null, .int 0, .null, .int 0, .int 0, .int 0, .int 0, .int 0, .null, .null, .null, .int 0, .null, .null, .int 0, .null, .int 0, .int 0])), (q1, k_I (z_g C) 320 k_0)] 1 320 10 [(0, .ref h0)] [.ref q1, .ref h0]
  refine k_putF hx 0 rfl rfl z_inX6 tyX6 tyX6_ok nmX6 0 (by decide) wf_X6_7 rfl rfl rfl rfl rfl (Nat.le_of_ble_eq_true rfl) (ws' := [(h0, .inr (6, [.ref q1, .null, .int 0, .null, .int 0, .int 0, .int 0, .int 0, .int 0, .null, .null, .null, .int 0, .null, .null, .int 0, .null, .int 0, .int 0])), (q1, k_I (z_g C) 320 k_0)]) rfl dX6_init_10 ?_
  refine k_aload_n hx 0 dX6_init_13 rfl ?_
  refine k_sipush hx (v := 1280) dX6_init_14 rfl ?_
  refine k_newI hx (N := 1280) wa_I (by decide) rfl (by decide) (by rw [hR]; exact ⟨Nat.le_of_ble_eq_true rfl, Nat.le_of_ble_eq_true rfl⟩) dX6_init_17 (fun q2 => ?_)
  show k_W C [(h0, .inr (6, [.ref q1, .null, .int 0, .null, .int 0, .int 0, .int 0, .int 0, .int 0, .null, .null, .null, .int 0, .null, .null, .int 0, .null, .int 0, .int 0])), (q1, k_I (z_g C) 320 k_0), (q2, k_I (z_g C) 1280 k_0)] 2 1600 19 [(0, .ref h0)] [.ref q2, .ref h0]
  refine k_putF hx 0 rfl rfl z_inX6 tyX6 tyX6_ok nmX6 1 (by decide) wf_X6_13 rfl rfl rfl rfl rfl (Nat.le_of_ble_eq_true rfl) (ws' := [(h0, .inr (6, [.ref q1, .ref q2, .int 0, .null, .int 0, .int 0, .int 0, .int 0, .int 0, .null, .null, .null, .int 0, .null, .null, .int 0, .null, .int 0, .int 0])), (q1, k_I (z_g C) 320 k_0), (q2, k_I (z_g C) 1280 k_0)]) rfl dX6_init_19 ?_
  refine k_aload_n hx 0 dX6_init_22 rfl ?_
  refine k_bipush hx (v := 120) dX6_init_23 rfl ?_
  refine k_newI hx (N := 120) wa_I (by decide) rfl (by decide) (by rw [hR]; exact ⟨Nat.le_of_ble_eq_true rfl, Nat.le_of_ble_eq_true rfl⟩) dX6_init_25 (fun q3 => ?_)
  show k_W C [(h0, .inr (6, [.ref q1, .ref q2, .int 0, .null, .int 0, .int 0, .int 0, .int 0, .int 0, .null, .null, .null, .int 0, .null, .null, .int 0, .null, .int 0, .int 0])), (q1, k_I (z_g C) 320 k_0), (q2, k_I (z_g C) 1280 k_0), (q3, k_I (z_g C) 120 k_0)] 3 1720 27 [(0, .ref h0)] [.ref q3, .ref h0]
  refine k_putF hx 0 rfl rfl z_inX6 tyX6 tyX6_ok nmX6 3 (by decide) wf_X6_16 rfl rfl rfl rfl rfl (Nat.le_of_ble_eq_true rfl) (ws' := [(h0, .inr (6, [.ref q1, .ref q2, .int 0, .ref q3, .int 0, .int 0, .int 0, .int 0, .int 0, .null, .null, .null, .int 0, .null, .null, .int 0, .null, .int 0, .int 0])), (q1, k_I (z_g C) 320 k_0), (q2, k_I (z_g C) 1280 k_0), (q3, k_I (z_g C) 120 k_0)]) rfl dX6_init_27 ?_
  refine k_aload_n hx 0 dX6_init_30 rfl ?_
  refine k_bipush hx (v := 120) dX6_init_31 rfl ?_
  refine k_newI hx (N := 120) wa_I (by decide) rfl (by decide) (by rw [hR]; exact ⟨Nat.le_of_ble_eq_true rfl, Nat.le_of_ble_eq_true rfl⟩) dX6_init_33 (fun q4 => ?_)
  show k_W C [(h0, .inr (6, [.ref q1, .ref q2, .int 0, .ref q3, .int 0, .int 0, .int 0, .int 0, .int 0, .null, .null, .null, .int 0, .null, .null, .int 0, .null, .int 0, .int 0])), (q1, k_I (z_g C) 320 k_0), (q2, k_I (z_g C) 1280 k_0), (q3, k_I (z_g C) 120 k_0), (q4, k_I (z_g C) 120 k_0)] 4 1840 35 [(0, .ref h0)] [.ref q4, .ref h0]
  refine k_putF hx 0 rfl rfl z_inX6 tyX6 tyX6_ok nmX6 9 (by decide) wf_X6_19 rfl rfl rfl rfl rfl (Nat.le_of_ble_eq_true rfl) (ws' := [(h0, .inr (6, [.ref q1, .ref q2, .int 0, .ref q3, .int 0, .int 0, .int 0, .int 0, .int 0, .ref q4, .null, .null, .int 0, .null, .null, .int 0, .null, .int 0, .int 0])), (q1, k_I (z_g C) 320 k_0), (q2, k_I (z_g C) 1280 k_0), (q3, k_I (z_g C) 120 k_0), (q4, k_I (z_g C) 120 k_0)]) rfl dX6_init_35 ?_
  refine k_aload_n hx 0 dX6_init_38 rfl ?_
  refine k_bipush hx (v := 100) dX6_init_39 rfl ?_
  refine k_newI hx (N := 100) wa_I (by decide) rfl (by decide) (by rw [hR]; exact ⟨Nat.le_of_ble_eq_true rfl, Nat.le_of_ble_eq_true rfl⟩) dX6_init_41 (fun q5 => ?_)
  show k_W C [(h0, .inr (6, [.ref q1, .ref q2, .int 0, .ref q3, .int 0, .int 0, .int 0, .int 0, .int 0, .ref q4, .null, .null, .int 0, .null, .null, .int 0, .null, .int 0, .int 0])), (q1, k_I (z_g C) 320 k_0), (q2, k_I (z_g C) 1280 k_0), (q3, k_I (z_g C) 120 k_0), (q4, k_I (z_g C) 120 k_0), (q5, k_I (z_g C) 100 k_0)] 5 1940 43 [(0, .ref h0)] [.ref q5, .ref h0]
  refine k_putF hx 0 rfl rfl z_inX6 tyX6 tyX6_ok nmX6 10 (by decide) wf_X6_22 rfl rfl rfl rfl rfl (Nat.le_of_ble_eq_true rfl) (ws' := [(h0, .inr (6, [.ref q1, .ref q2, .int 0, .ref q3, .int 0, .int 0, .int 0, .int 0, .int 0, .ref q4, .ref q5, .null, .int 0, .null, .null, .int 0, .null, .int 0, .int 0])), (q1, k_I (z_g C) 320 k_0), (q2, k_I (z_g C) 1280 k_0), (q3, k_I (z_g C) 120 k_0), (q4, k_I (z_g C) 120 k_0), (q5, k_I (z_g C) 100 k_0)]) rfl dX6_init_43 ?_
  refine k_aload_n hx 0 dX6_init_46 rfl ?_
  refine k_bipush hx (v := 100) dX6_init_47 rfl ?_
  refine k_newI hx (N := 100) wa_I (by decide) rfl (by decide) (by rw [hR]; exact ⟨Nat.le_of_ble_eq_true rfl, Nat.le_of_ble_eq_true rfl⟩) dX6_init_49 (fun q6 => ?_)
  show k_W C [(h0, .inr (6, [.ref q1, .ref q2, .int 0, .ref q3, .int 0, .int 0, .int 0, .int 0, .int 0, .ref q4, .ref q5, .null, .int 0, .null, .null, .int 0, .null, .int 0, .int 0])), (q1, k_I (z_g C) 320 k_0), (q2, k_I (z_g C) 1280 k_0), (q3, k_I (z_g C) 120 k_0), (q4, k_I (z_g C) 120 k_0), (q5, k_I (z_g C) 100 k_0), (q6, k_I (z_g C) 100 k_0)] 6 2040 51 [(0, .ref h0)] [.ref q6, .ref h0]
  refine k_putF hx 0 rfl rfl z_inX6 tyX6 tyX6_ok nmX6 11 (by decide) wf_X6_25 rfl rfl rfl rfl rfl (Nat.le_of_ble_eq_true rfl) (ws' := [(h0, .inr (6, [.ref q1, .ref q2, .int 0, .ref q3, .int 0, .int 0, .int 0, .int 0, .int 0, .ref q4, .ref q5, .ref q6, .int 0, .null, .null, .int 0, .null, .int 0, .int 0])), (q1, k_I (z_g C) 320 k_0), (q2, k_I (z_g C) 1280 k_0), (q3, k_I (z_g C) 120 k_0), (q4, k_I (z_g C) 120 k_0), (q5, k_I (z_g C) 100 k_0), (q6, k_I (z_g C) 100 k_0)]) rfl dX6_init_51 ?_
  refine k_aload_n hx 0 dX6_init_54 rfl ?_
  refine k_sipush hx (v := 1400) dX6_init_55 rfl ?_
  refine k_newI hx (N := 1400) wa_I (by decide) rfl (by decide) (by rw [hR]; exact ⟨Nat.le_of_ble_eq_true rfl, Nat.le_of_ble_eq_true rfl⟩) dX6_init_58 (fun q7 => ?_)
  show k_W C [(h0, .inr (6, [.ref q1, .ref q2, .int 0, .ref q3, .int 0, .int 0, .int 0, .int 0, .int 0, .ref q4, .ref q5, .ref q6, .int 0, .null, .null, .int 0, .null, .int 0, .int 0])), (q1, k_I (z_g C) 320 k_0), (q2, k_I (z_g C) 1280 k_0), (q3, k_I (z_g C) 120 k_0), (q4, k_I (z_g C) 120 k_0), (q5, k_I (z_g C) 100 k_0), (q6, k_I (z_g C) 100 k_0), (q7, k_I (z_g C) 1400 k_0)] 7 3440 60 [(0, .ref h0)] [.ref q7, .ref h0]
  refine k_putF hx 0 rfl rfl z_inX6 tyX6 tyX6_ok nmX6 13 (by decide) wf_X6_28 rfl rfl rfl rfl rfl (Nat.le_of_ble_eq_true rfl) (ws' := [(h0, .inr (6, [.ref q1, .ref q2, .int 0, .ref q3, .int 0, .int 0, .int 0, .int 0, .int 0, .ref q4, .ref q5, .ref q6, .int 0, .ref q7, .null, .int 0, .null, .int 0, .int 0])), (q1, k_I (z_g C) 320 k_0), (q2, k_I (z_g C) 1280 k_0), (q3, k_I (z_g C) 120 k_0), (q4, k_I (z_g C) 120 k_0), (q5, k_I (z_g C) 100 k_0), (q6, k_I (z_g C) 100 k_0), (q7, k_I (z_g C) 1400 k_0)]) rfl dX6_init_60 ?_
  refine k_aload_n hx 0 dX6_init_63 rfl ?_
  refine k_sipush hx (v := 1400) dX6_init_64 rfl ?_
  refine k_newI hx (N := 1400) wa_I (by decide) rfl (by decide) (by rw [hR]; exact ⟨Nat.le_of_ble_eq_true rfl, Nat.le_of_ble_eq_true rfl⟩) dX6_init_67 (fun q8 => ?_)
  show k_W C [(h0, .inr (6, [.ref q1, .ref q2, .int 0, .ref q3, .int 0, .int 0, .int 0, .int 0, .int 0, .ref q4, .ref q5, .ref q6, .int 0, .ref q7, .null, .int 0, .null, .int 0, .int 0])), (q1, k_I (z_g C) 320 k_0), (q2, k_I (z_g C) 1280 k_0), (q3, k_I (z_g C) 120 k_0), (q4, k_I (z_g C) 120 k_0), (q5, k_I (z_g C) 100 k_0), (q6, k_I (z_g C) 100 k_0), (q7, k_I (z_g C) 1400 k_0), (q8, k_I (z_g C) 1400 k_0)] 8 4840 69 [(0, .ref h0)] [.ref q8, .ref h0]
  refine k_putF hx 0 rfl rfl z_inX6 tyX6 tyX6_ok nmX6 14 (by decide) wf_X6_31 rfl rfl rfl rfl rfl (Nat.le_of_ble_eq_true rfl) (ws' := [(h0, .inr (6, [.ref q1, .ref q2, .int 0, .ref q3, .int 0, .int 0, .int 0, .int 0, .int 0, .ref q4, .ref q5, .ref q6, .int 0, .ref q7, .ref q8, .int 0, .null, .int 0, .int 0])), (q1, k_I (z_g C) 320 k_0), (q2, k_I (z_g C) 1280 k_0), (q3, k_I (z_g C) 120 k_0), (q4, k_I (z_g C) 120 k_0), (q5, k_I (z_g C) 100 k_0), (q6, k_I (z_g C) 100 k_0), (q7, k_I (z_g C) 1400 k_0), (q8, k_I (z_g C) 1400 k_0)]) rfl dX6_init_69 ?_
  refine k_aload_n hx 0 dX6_init_72 rfl ?_
  refine k_sipush hx (v := 200) dX6_init_73 rfl ?_
  refine k_newI hx (N := 200) wa_I (by decide) rfl (by decide) (by rw [hR]; exact ⟨Nat.le_of_ble_eq_true rfl, Nat.le_of_ble_eq_true rfl⟩) dX6_init_76 (fun q9 => ?_)
  show k_W C [(h0, .inr (6, [.ref q1, .ref q2, .int 0, .ref q3, .int 0, .int 0, .int 0, .int 0, .int 0, .ref q4, .ref q5, .ref q6, .int 0, .ref q7, .ref q8, .int 0, .null, .int 0, .int 0])), (q1, k_I (z_g C) 320 k_0), (q2, k_I (z_g C) 1280 k_0), (q3, k_I (z_g C) 120 k_0), (q4, k_I (z_g C) 120 k_0), (q5, k_I (z_g C) 100 k_0), (q6, k_I (z_g C) 100 k_0), (q7, k_I (z_g C) 1400 k_0), (q8, k_I (z_g C) 1400 k_0), (q9, k_I (z_g C) 200 k_0)] 9 5040 78 [(0, .ref h0)] [.ref q9, .ref h0]
  refine k_putF hx 0 rfl rfl z_inX6 tyX6 tyX6_ok nmX6 16 (by decide) wf_X6_34 rfl rfl rfl rfl rfl (Nat.le_of_ble_eq_true rfl) (ws' := [(h0, .inr (6, [.ref q1, .ref q2, .int 0, .ref q3, .int 0, .int 0, .int 0, .int 0, .int 0, .ref q4, .ref q5, .ref q6, .int 0, .ref q7, .ref q8, .int 0, .ref q9, .int 0, .int 0])), (q1, k_I (z_g C) 320 k_0), (q2, k_I (z_g C) 1280 k_0), (q3, k_I (z_g C) 120 k_0), (q4, k_I (z_g C) 120 k_0), (q5, k_I (z_g C) 100 k_0), (q6, k_I (z_g C) 100 k_0), (q7, k_I (z_g C) 1400 k_0), (q8, k_I (z_g C) 1400 k_0), (q9, k_I (z_g C) 200 k_0)]) rfl dX6_init_78 ?_
  refine k_aload_n hx 0 dX6_init_81 rfl ?_
  refine k_get hx 0 rfl rfl z_inX6 0 (by decide) wf_X6_7 rfl rfl dX6_init_82 ?_
  refine k_iconst hx (v := 0) dX6_init_85 ?_
  refine k_bipush hx (v := 30) dX6_init_86 rfl ?_
  refine k_iast hx 1 rfl (by decide) (i := 0) (v := 30) (by decide) (ws' := [(h0, .inr (6, [.ref q1, .ref q2, .int 0, .ref q3, .int 0, .int 0, .int 0, .int 0, .int 0, .ref q4, .ref q5, .ref q6, .int 0, .ref q7, .ref q8, .int 0, .ref q9, .int 0, .int 0])), (q1, k_I (z_g C) 320 (fun b => if b = 0 then 30 else k_0 b)), (q2, k_I (z_g C) 1280 k_0), (q3, k_I (z_g C) 120 k_0), (q4, k_I (z_g C) 120 k_0), (q5, k_I (z_g C) 100 k_0), (q6, k_I (z_g C) 100 k_0), (q7, k_I (z_g C) 1400 k_0), (q8, k_I (z_g C) 1400 k_0), (q9, k_I (z_g C) 200 k_0)]) rfl dX6_init_88 ?_
  refine k_aload_n hx 0 dX6_init_89 rfl ?_
  refine k_get hx 0 rfl rfl z_inX6 0 (by decide) wf_X6_7 rfl rfl dX6_init_90 ?_
  refine k_iconst hx (v := 1) dX6_init_93 ?_
  refine k_iconst hx (v := 1) dX6_init_94 ?_
  refine k_iast hx 1 rfl (by decide) (i := 1) (v := 1) (by decide) (ws' := [(h0, .inr (6, [.ref q1, .ref q2, .int 0, .ref q3, .int 0, .int 0, .int 0, .int 0, .int 0, .ref q4, .ref q5, .ref q6, .int 0, .ref q7, .ref q8, .int 0, .ref q9, .int 0, .int 0])), (q1, k_I (z_g C) 320 (fun b => if b = 1 then 1 else (fun b => if b = 0 then 30 else k_0 b) b)), (q2, k_I (z_g C) 1280 k_0), (q3, k_I (z_g C) 120 k_0), (q4, k_I (z_g C) 120 k_0), (q5, k_I (z_g C) 100 k_0), (q6, k_I (z_g C) 100 k_0), (q7, k_I (z_g C) 1400 k_0), (q8, k_I (z_g C) 1400 k_0), (q9, k_I (z_g C) 200 k_0)]) rfl dX6_init_95 ?_
  refine k_aload_n hx 0 dX6_init_96 rfl ?_
  refine k_get hx 0 rfl rfl z_inX6 0 (by decide) wf_X6_7 rfl rfl dX6_init_97 ?_
  refine k_iconst hx (v := 2) dX6_init_100 ?_
  refine k_iconst hx (v := 5) dX6_init_101 ?_
  refine k_iast hx 1 rfl (by decide) (i := 2) (v := 5) (by decide) (ws' := [(h0, .inr (6, [.ref q1, .ref q2, .int 0, .ref q3, .int 0, .int 0, .int 0, .int 0, .int 0, .ref q4, .ref q5, .ref q6, .int 0, .ref q7, .ref q8, .int 0, .ref q9, .int 0, .int 0])), (q1, k_I (z_g C) 320 (fun b => if b = 2 then 5 else (fun b => if b = 1 then 1 else (fun b => if b = 0 then 30 else k_0 b) b) b)), (q2, k_I (z_g C) 1280 k_0), (q3, k_I (z_g C) 120 k_0), (q4, k_I (z_g C) 120 k_0), (q5, k_I (z_g C) 100 k_0), (q6, k_I (z_g C) 100 k_0), (q7, k_I (z_g C) 1400 k_0), (q8, k_I (z_g C) 1400 k_0), (q9, k_I (z_g C) 200 k_0)]) rfl dX6_init_102 ?_
  refine k_aload_n hx 0 dX6_init_103 rfl ?_
  refine k_get hx 0 rfl rfl z_inX6 0 (by decide) wf_X6_7 rfl rfl dX6_init_104 ?_
  refine k_iconst hx (v := 3) dX6_init_107 ?_
  refine k_iconst hx (v := 4) dX6_init_108 ?_
  refine k_iast hx 1 rfl (by decide) (i := 3) (v := 4) (by decide) (ws' := [(h0, .inr (6, [.ref q1, .ref q2, .int 0, .ref q3, .int 0, .int 0, .int 0, .int 0, .int 0, .ref q4, .ref q5, .ref q6, .int 0, .ref q7, .ref q8, .int 0, .ref q9, .int 0, .int 0])), (q1, k_I (z_g C) 320 (fun b => if b = 3 then 4 else (fun b => if b = 2 then 5 else (fun b => if b = 1 then 1 else (fun b => if b = 0 then 30 else k_0 b) b) b) b)), (q2, k_I (z_g C) 1280 k_0), (q3, k_I (z_g C) 120 k_0), (q4, k_I (z_g C) 120 k_0), (q5, k_I (z_g C) 100 k_0), (q6, k_I (z_g C) 100 k_0), (q7, k_I (z_g C) 1400 k_0), (q8, k_I (z_g C) 1400 k_0), (q9, k_I (z_g C) 200 k_0)]) rfl dX6_init_109 ?_
  refine k_aload_n hx 0 dX6_init_110 rfl ?_
  refine k_get hx 0 rfl rfl z_inX6 0 (by decide) wf_X6_7 rfl rfl dX6_init_111 ?_
  refine k_iconst hx (v := 4) dX6_init_114 ?_
  refine k_bipush hx (v := 50) dX6_init_115 rfl ?_
  refine k_iast hx 1 rfl (by decide) (i := 4) (v := 50) (by decide) (ws' := [(h0, .inr (6, [.ref q1, .ref q2, .int 0, .ref q3, .int 0, .int 0, .int 0, .int 0, .int 0, .ref q4, .ref q5, .ref q6, .int 0, .ref q7, .ref q8, .int 0, .ref q9, .int 0, .int 0])), (q1, k_I (z_g C) 320 (fun b => if b = 4 then 50 else (fun b => if b = 3 then 4 else (fun b => if b = 2 then 5 else (fun b => if b = 1 then 1 else (fun b => if b = 0 then 30 else k_0 b) b) b) b) b)), (q2, k_I (z_g C) 1280 k_0), (q3, k_I (z_g C) 120 k_0), (q4, k_I (z_g C) 120 k_0), (q5, k_I (z_g C) 100 k_0), (q6, k_I (z_g C) 100 k_0), (q7, k_I (z_g C) 1400 k_0), (q8, k_I (z_g C) 1400 k_0), (q9, k_I (z_g C) 200 k_0)]) rfl dX6_init_117 ?_
  refine k_aload_n hx 0 dX6_init_118 rfl ?_
  refine k_get hx 0 rfl rfl z_inX6 0 (by decide) wf_X6_7 rfl rfl dX6_init_119 ?_
  refine k_iconst hx (v := 5) dX6_init_122 ?_
  refine k_bipush hx (v := 6) dX6_init_123 rfl ?_
  refine k_iast hx 1 rfl (by decide) (i := 5) (v := 6) (by decide) (ws' := [(h0, .inr (6, [.ref q1, .ref q2, .int 0, .ref q3, .int 0, .int 0, .int 0, .int 0, .int 0, .ref q4, .ref q5, .ref q6, .int 0, .ref q7, .ref q8, .int 0, .ref q9, .int 0, .int 0])), (q1, k_I (z_g C) 320 (fun b => if b = 5 then 6 else (fun b => if b = 4 then 50 else (fun b => if b = 3 then 4 else (fun b => if b = 2 then 5 else (fun b => if b = 1 then 1 else (fun b => if b = 0 then 30 else k_0 b) b) b) b) b) b)), (q2, k_I (z_g C) 1280 k_0), (q3, k_I (z_g C) 120 k_0), (q4, k_I (z_g C) 120 k_0), (q5, k_I (z_g C) 100 k_0), (q6, k_I (z_g C) 100 k_0), (q7, k_I (z_g C) 1400 k_0), (q8, k_I (z_g C) 1400 k_0), (q9, k_I (z_g C) 200 k_0)]) rfl dX6_init_125 ?_
  refine k_aload_n hx 0 dX6_init_126 rfl ?_
  refine k_get hx 0 rfl rfl z_inX6 0 (by decide) wf_X6_7 rfl rfl dX6_init_127 ?_
  refine k_bipush hx (v := 6) dX6_init_130 rfl ?_
  refine k_iconst hx (v := 2) dX6_init_132 ?_
  refine k_iast hx 1 rfl (by decide) (i := 6) (v := 2) (by decide) (ws' := [(h0, .inr (6, [.ref q1, .ref q2, .int 0, .ref q3, .int 0, .int 0, .int 0, .int 0, .int 0, .ref q4, .ref q5, .ref q6, .int 0, .ref q7, .ref q8, .int 0, .ref q9, .int 0, .int 0])), (q1, k_I (z_g C) 320 (fun b => if b = 6 then 2 else (fun b => if b = 5 then 6 else (fun b => if b = 4 then 50 else (fun b => if b = 3 then 4 else (fun b => if b = 2 then 5 else (fun b => if b = 1 then 1 else (fun b => if b = 0 then 30 else k_0 b) b) b) b) b) b) b)), (q2, k_I (z_g C) 1280 k_0), (q3, k_I (z_g C) 120 k_0), (q4, k_I (z_g C) 120 k_0), (q5, k_I (z_g C) 100 k_0), (q6, k_I (z_g C) 100 k_0), (q7, k_I (z_g C) 1400 k_0), (q8, k_I (z_g C) 1400 k_0), (q9, k_I (z_g C) 200 k_0)]) rfl dX6_init_133 ?_
  exact k_ret hx hq (fun k => ([h0, q1, q2, q3, q4, q5, q6, q7, q8, q9] : List Nat).getD k 0) [0, 1, 2, 3, 4, 5, 6, 7, 8, 9] rfl (by decide) rfl (by rw [hR]; exact ⟨Nat.le_of_ble_eq_true rfl, Nat.le_of_ble_eq_true rfl⟩) dX6_init_134
