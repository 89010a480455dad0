/-! the constructors, by program -/
theorem win_O : Cond.instanceMethod Lib.objectInit ∈ z_ws := z_ws_t 15 (by decide +kernel) (by decide +kernel)
theorem wc_O : Cond.code Lib.objectInit ⟨#[0xb1]⟩ 1 none ∈ z_ws := z_ws_t 16 (by decide +kernel) (by decide +kernel)
theorem wa_I : Cond.arrayClass .int ∈ z_ws := z_ws_t 73 (by decide +kernel) (by decide +kernel)
theorem wa_Z : Cond.arrayClass .boolean ∈ z_ws := z_ws_t 74 (by decide +kernel) (by decide +kernel)
theorem wm_X2_3 : Cond.methodLink RX2 3 Lib.objectInit ∈ z_ws := z_ws_t 22 (by decide +kernel) (by decide +kernel)
theorem wm_X0_3 : Cond.methodLink RX0 3 Lib.objectInit ∈ z_ws := z_ws_t 121 (by decide +kernel) (by decide +kernel)
theorem wm_X3_3 : Cond.methodLink RX3 3 Lib.objectInit ∈ z_ws := z_ws_t 151 (by decide +kernel) (by decide +kernel)
theorem wm_X4_3 : Cond.methodLink RX4 3 Lib.objectInit ∈ z_ws := z_ws_t 97 (by decide +kernel) (by decide +kernel)
theorem wcl_X4_9 : Cond.classLink RX4 9 RX2 ∈ z_ws := z_ws_t 98 (by decide +kernel) (by decide +kernel)
theorem wins_X2 : Cond.instantiable RX2 9 ∈ z_ws := z_ws_t 18 (by decide +kernel) (by decide +kernel)
theorem wm_X4_11 : Cond.methodLink RX4 11 yX2_init ∈ z_ws := z_ws_t 99 (by decide +kernel) (by decide +kernel)
theorem win_X2_init : Cond.instanceMethod yX2_init ∈ z_ws := z_ws_t 20 (by decide +kernel) (by decide +kernel)
theorem wc_X2_init : Cond.code yX2_init cX2_init 1 none ∈ z_ws := z_ws_t 21 (by decide +kernel) (by decide +kernel)
theorem wf_X4_12 : Cond.fieldLink RX4 12 RX4 "draft" "LSpeechCleaner$Recording;" ∈ z_ws := z_ws_t 100 (by decide +kernel) (by decide +kernel)
theorem wm_X1_3 : Cond.methodLink RX1 3 Lib.objectInit ∈ z_ws := z_ws_t 80 (by decide +kernel) (by decide +kernel)
theorem wcl_X1_9 : Cond.classLink RX1 9 RX2 ∈ z_ws := z_ws_t 81 (by decide +kernel) (by decide +kernel)
theorem wm_X1_21 : Cond.methodLink RX1 21 yX2_init ∈ z_ws := z_ws_t 83 (by decide +kernel) (by decide +kernel)
theorem wm_X5_1 : Cond.methodLink RX5 1 Lib.objectInit ∈ z_ws := z_ws_t 14 (by decide +kernel) (by decide +kernel)
theorem wcl_X5_17 : Cond.classLink RX5 17 RX2 ∈ z_ws := z_ws_t 17 (by decide +kernel) (by decide +kernel)
theorem wm_X5_19 : Cond.methodLink RX5 19 yX2_init ∈ z_ws := z_ws_t 19 (by decide +kernel) (by decide +kernel)
theorem wcl_X5_24 : Cond.classLink RX5 24 RX1 ∈ z_ws := z_ws_t 75 (by decide +kernel) (by decide +kernel)
theorem wins_X1 : Cond.instantiable RX1 2 ∈ z_ws := z_ws_t 76 (by decide +kernel) (by decide +kernel)
theorem wm_X5_26 : Cond.methodLink RX5 26 yX1_init ∈ z_ws := z_ws_t 77 (by decide +kernel) (by decide +kernel)
theorem win_X1_init : Cond.instanceMethod yX1_init ∈ z_ws := z_ws_t 78 (by decide +kernel) (by decide +kernel)
theorem wc_X1_init : Cond.code yX1_init cX1_init 2 none ∈ z_ws := z_ws_t 79 (by decide +kernel) (by decide +kernel)
theorem wcl_X5_31 : Cond.classLink RX5 31 RX4 ∈ z_ws := z_ws_t 92 (by decide +kernel) (by decide +kernel)
theorem wins_X4 : Cond.instantiable RX4 7 ∈ z_ws := z_ws_t 93 (by decide +kernel) (by decide +kernel)
theorem wi_X4 : Cond.initialized RX4 ∈ z_ws := z_ws_t 5 (by decide +kernel) (by decide +kernel)
theorem win_X4_init : Cond.instanceMethod yX4_init ∈ z_ws := z_ws_t 95 (by decide +kernel) (by decide +kernel)
theorem wc_X4_init : Cond.code yX4_init cX4_init 1 none ∈ z_ws := z_ws_t 96 (by decide +kernel) (by decide +kernel)
theorem wf_X5_34 : Cond.fieldLink RX5 34 RX5 "reader" "LSpeechCleaner$TextReader;" ∈ z_ws := z_ws_t 181 (by decide +kernel) (by decide +kernel)
theorem wcl_X5_38 : Cond.classLink RX5 38 RX0 ∈ z_ws := z_ws_t 116 (by decide +kernel) (by decide +kernel)
theorem wins_X0 : Cond.instantiable RX0 6 ∈ z_ws := z_ws_t 117 (by decide +kernel) (by decide +kernel)
theorem win_X0_init : Cond.instanceMethod yX0_init ∈ z_ws := z_ws_t 119 (by decide +kernel) (by decide +kernel)
theorem wc_X0_init : Cond.code yX0_init cX0_init 1 none ∈ z_ws := z_ws_t 120 (by decide +kernel) (by decide +kernel)
theorem wcl_X5_45 : Cond.classLink RX5 45 RX3 ∈ z_ws := z_ws_t 146 (by decide +kernel) (by decide +kernel)
theorem wins_X3 : Cond.instantiable RX3 7 ∈ z_ws := z_ws_t 147 (by decide +kernel) (by decide +kernel)
theorem win_X3_init : Cond.instanceMethod yX3_init ∈ z_ws := z_ws_t 149 (by decide +kernel) (by decide +kernel)
theorem wc_X3_init : Cond.code yX3_init cX3_init 1 none ∈ z_ws := z_ws_t 150 (by decide +kernel) (by decide +kernel)
theorem dX2_init_0 : decode cX2_init 0 = .ok (.aload_n 0, 1) := by decide +kernel
theorem dX2_init_1 : decode cX2_init 1 = .ok (.invokespecial 3, 3) := by decide +kernel
theorem dX2_init_4 : decode cX2_init 4 = .ok (.aload_n 0, 1) := by decide +kernel
theorem dX2_init_5 : decode cX2_init 5 = .ok (.sipush 200, 3) := by decide +kernel
theorem dX2_init_8 : decode cX2_init 8 = .ok (.newarray .int, 2) := by decide +kernel
theorem dX2_init_10 : decode cX2_init 10 = .ok (.putfield 9, 3) := by decide +kernel
theorem dX2_init_13 : decode cX2_init 13 = .ok (.aload_n 0, 1) := by decide +kernel
theorem dX2_init_14 : decode cX2_init 14 = .ok (.iconst 0, 1) := by decide +kernel
theorem dX2_init_15 : decode cX2_init 15 = .ok (.putfield 15, 3) := by decide +kernel
theorem dX2_init_18 : decode cX2_init 18 = .ok (.aload_n 0, 1) := by decide +kernel
theorem dX2_init_19 : decode cX2_init 19 = .ok (.bipush 20, 2) := by decide +kernel
theorem dX2_init_21 : decode cX2_init 21 = .ok (.newarray .int, 2) := by decide +kernel
theorem dX2_init_23 : decode cX2_init 23 = .ok (.putfield 19, 3) := by decide +kernel
theorem dX2_init_26 : decode cX2_init 26 = .ok (.aload_n 0, 1) := by decide +kernel
theorem dX2_init_27 : decode cX2_init 27 = .ok (.bipush 20, 2) := by decide +kernel
theorem dX2_init_29 : decode cX2_init 29 = .ok (.newarray .int, 2) := by decide +kernel
theorem dX2_init_31 : decode cX2_init 31 = .ok (.putfield 22, 3) := by decide +kernel
theorem dX2_init_34 : decode cX2_init 34 = .ok (.aload_n 0, 1) := by decide +kernel
theorem dX2_init_35 : decode cX2_init 35 = .ok (.bipush 20, 2) := by decide +kernel
theorem dX2_init_37 : decode cX2_init 37 = .ok (.newarray .int, 2) := by decide +kernel
theorem dX2_init_39 : decode cX2_init 39 = .ok (.putfield 25, 3) := by decide +kernel
theorem dX2_init_42 : decode cX2_init 42 = .ok (.aload_n 0, 1) := by decide +kernel
theorem dX2_init_43 : decode cX2_init 43 = .ok (.bipush 20, 2) := by decide +kernel
theorem dX2_init_45 : decode cX2_init 45 = .ok (.newarray .int, 2) := by decide +kernel
theorem dX2_init_47 : decode cX2_init 47 = .ok (.putfield 28, 3) := by decide +kernel
theorem dX2_init_50 : decode cX2_init 50 = .ok (.aload_n 0, 1) := by decide +kernel
theorem dX2_init_51 : decode cX2_init 51 = .ok (.bipush 20, 2) := by decide +kernel
theorem dX2_init_53 : decode cX2_init 53 = .ok (.newarray .boolean, 2) := by decide +kernel
theorem dX2_init_55 : decode cX2_init 55 = .ok (.putfield 31, 3) := by decide +kernel
theorem dX2_init_58 : decode cX2_init 58 = .ok (.aload_n 0, 1) := by decide +kernel
theorem dX2_init_59 : decode cX2_init 59 = .ok (.iconst 0, 1) := by decide +kernel
theorem dX2_init_60 : decode cX2_init 60 = .ok (.putfield 35, 3) := by decide +kernel
theorem dX2_init_63 : decode cX2_init 63 = .ok (.aload_n 0, 1) := by decide +kernel
theorem dX2_init_64 : decode cX2_init 64 = .ok (.bipush 7, 2) := by decide +kernel
theorem dX2_init_66 : decode cX2_init 66 = .ok (.newarray .int, 2) := by decide +kernel
theorem dX2_init_68 : decode cX2_init 68 = .ok (.putfield 38, 3) := by decide +kernel
theorem dX2_init_71 : decode cX2_init 71 = .ok (.getstatic 41, 3) := by decide +kernel
theorem dX2_init_74 : decode cX2_init 74 = .ok (.iconst 0, 1) := by decide +kernel
theorem dX2_init_75 : decode cX2_init 75 = .ok (.aload_n 0, 1) := by decide +kernel
theorem dX2_init_76 : decode cX2_init 76 = .ok (.getfield 38, 3) := by decide +kernel
theorem dX2_init_79 : decode cX2_init 79 = .ok (.iconst 0, 1) := by decide +kernel
theorem dX2_init_80 : decode cX2_init 80 = .ok (.bipush 7, 2) := by decide +kernel
theorem dX2_init_82 : decode cX2_init 82 = .ok (.invokestatic 44, 3) := by decide +kernel
theorem dX2_init_85 : decode cX2_init 85 = .ok (.return_, 1) := by decide +kernel
def wd_X2 (g : zG) (h0 : Nat) (u : Nat → Nat) : va_W := [(h0, .inr (2, [.ref (u 1), .int (zi 0), .ref (u 2), .ref (u 3), .ref (u 4), .ref (u 5), .ref (u 6), .int (zi 0), .ref (u 7)])), (u 1, k_I g 200 k_0), (u 2, k_I g 20 k_0), (u 3, k_I g 20 k_0), (u 4, k_I g 20 k_0), (u 5, k_I g 20 k_0), (u 6, k_Z g 20 k_0), (u 7, k_I g 7 k_set)]
abbrev rm_X2_init : Room := { frames := 1, cells := 7, slots := 307, locals := 60 }
set_option maxRecDepth 100000 in
set_option maxHeartbeats 4000000 in
theorem met_X2_init (l : Launch) (g : zG) (gs h0 : Nat) : k_Met l yX2_init cX2_init 1 rm_X2_init g gs h0 (.inr (2, [.null, .int 0, .null, .null, .null, .null, .null, .int 0, .null])) (wd_X2 g h0) := by
  refine k_enter (own := RX2) (by decide) rfl rfl (by decide) (fun C hx hl hg hR hn hq => ?_)
  subst hg
  subst hl
  refine k_aload_n hx 0 dX2_init_0 rfl ?_
  refine k_obj hx wm_X2_3 win_O wc_O (by rw [hR]; exact ⟨Nat.le_of_ble_eq_true rfl, Nat.le_of_ble_eq_true rfl⟩) dX2_init_1 ?_
  refine k_aload_n hx 0 dX2_init_4 rfl ?_
  refine k_sipush hx (v := 200) dX2_init_5 rfl ?_
  refine k_newI hx (N := 200) wa_I (by decide) rfl (by decide) (by rw [hR]; exact ⟨Nat.le_of_ble_eq_true rfl, Nat.le_of_ble_eq_true rfl⟩) dX2_init_8 (fun q1 => ?_)
  show k_W C [(h0, .inr (2, [.null, .int 0, .null, .null, .null, .null, .null, .int 0, .null])), (q1, k_I (z_g C) 200 k_0)] 1 200 10 [(0, .ref h0)] [.ref q1, .ref h0]
  refine k_putF hx 0 rfl rfl z_inX2 tyX2 tyX2_ok nmX2 0 (by decide) wf_X2_9 rfl rfl rfl rfl rfl (Nat.le_of_ble_eq_true rfl) (ws' := [(h0, .inr (2, [.ref q1, .int 0, .null, .null, .null, .null, .null, .int 0, .null])), (q1, k_I (z_g C) 200 k_0)]) rfl dX2_init_10 ?_
  refine k_aload_n hx 0 dX2_init_13 rfl ?_
  refine k_iconst hx (v := 0) dX2_init_14 ?_
  refine k_put hx 0 rfl rfl z_inX2 tyX2 tyX2_ok nmX2 1 (by decide) wf_X2_15 rfl rfl rfl (Nat.le_of_ble_eq_true rfl) (ws' := [(h0, .inr (2, [.ref q1, .int (zi 0), .null, .null, .null, .null, .null, .int 0, .null])), (q1, k_I (z_g C) 200 k_0)]) rfl dX2_init_15 ?_
  refine k_aload_n hx 0 dX2_init_18 rfl ?_
  refine k_bipush hx (v := 20) dX2_init_19 rfl ?_
  refine k_newI hx (N := 20) wa_I (by decide) rfl (by decide) (by rw [hR]; exact ⟨Nat.le_of_ble_eq_true rfl, Nat.le_of_ble_eq_true rfl⟩) dX2_init_21 (fun q2 => ?_)
  show k_W C [(h0, .inr (2, [.ref q1, .int (zi 0), .null, .null, .null, .null, .null, .int 0, .null])), (q1, k_I (z_g C) 200 k_0), (q2, k_I (z_g C) 20 k_0)] 2 220 23 [(0, .ref h0)] [.ref q2, .ref h0]
  refine k_putF hx 0 rfl rfl z_inX2 tyX2 tyX2_ok nmX2 2 (by decide) wf_X2_19 rfl rfl rfl rfl rfl (Nat.le_of_ble_eq_true rfl) (ws' := [(h0, .inr (2, [.ref q1, .int (zi 0), .ref q2, .null, .null, .null, .null, .int 0, .null])), (q1, k_I (z_g C) 200 k_0), (q2, k_I (z_g C) 20 k_0)]) rfl dX2_init_23 ?_
  refine k_aload_n hx 0 dX2_init_26 rfl ?_
  refine k_bipush hx (v := 20) dX2_init_27 rfl ?_
  refine k_newI hx (N := 20) wa_I (by decide) rfl (by decide) (by rw [hR]; exact ⟨Nat.le_of_ble_eq_true rfl, Nat.le_of_ble_eq_true rfl⟩) dX2_init_29 (fun q3 => ?_)
  show k_W C [(h0, .inr (2, [.ref q1, .int (zi 0), .ref q2, .null, .null, .null, .null, .int 0, .null])), (q1, k_I (z_g C) 200 k_0), (q2, k_I (z_g C) 20 k_0), (q3, k_I (z_g C) 20 k_0)] 3 240 31 [(0, .ref h0)] [.ref q3, .ref h0]
  refine k_putF hx 0 rfl rfl z_inX2 tyX2 tyX2_ok nmX2 3 (by decide) wf_X2_22 rfl rfl rfl rfl rfl (Nat.le_of_ble_eq_true rfl) (ws' := [(h0, .inr (2, [.ref q1, .int (zi 0), .ref q2, .ref q3, .null, .null, .null, .int 0, .null])), (q1, k_I (z_g C) 200 k_0), (q2, k_I (z_g C) 20 k_0), (q3, k_I (z_g C) 20 k_0)]) rfl dX2_init_31 ?_
  refine k_aload_n hx 0 dX2_init_34 rfl ?_
  refine k_bipush hx (v := 20) dX2_init_35 rfl ?_
  refine k_newI hx (N := 20) wa_I (by decide) rfl (by decide) (by rw [hR]; exact ⟨Nat.le_of_ble_eq_true rfl, Nat.le_of_ble_eq_true rfl⟩) dX2_init_37 (fun q4 => ?_)
  show k_W C [(h0, .inr (2, [.ref q1, .int (zi 0), .ref q2, .ref q3, .null, .null, .null, .int 0, .null])), (q1, k_I (z_g C) 200 k_0), (q2, k_I (z_g C) 20 k_0), (q3, k_I (z_g C) 20 k_0), (q4, k_I (z_g C) 20 k_0)] 4 260 39 [(0, .ref h0)] [.ref q4, .ref h0]
  refine k_putF hx 0 rfl rfl z_inX2 tyX2 tyX2_ok nmX2 4 (by decide) wf_X2_25 rfl rfl rfl rfl rfl (Nat.le_of_ble_eq_true rfl) (ws' := [(h0, .inr (2, [.ref q1, .int (zi 0), .ref q2, .ref q3, .ref q4, .null, .null, .int 0, .null])), (q1, k_I (z_g C) 200 k_0), (q2, k_I (z_g C) 20 k_0), (q3, k_I (z_g C) 20 k_0), (q4, k_I (z_g C) 20 k_0)]) rfl dX2_init_39 ?_
  refine k_aload_n hx 0 dX2_init_42 rfl ?_
  refine k_bipush hx (v := 20) dX2_init_43 rfl ?_
  refine k_newI hx (N := 20) wa_I (by decide) rfl (by decide) (by rw [hR]; exact ⟨Nat.le_of_ble_eq_true rfl, Nat.le_of_ble_eq_true rfl⟩) dX2_init_45 (fun q5 => ?_)
  show k_W C [(h0, .inr (2, [.ref q1, .int (zi 0), .ref q2, .ref q3, .ref q4, .null, .null, .int 0, .null])), (q1, k_I (z_g C) 200 k_0), (q2, k_I (z_g C) 20 k_0), (q3, k_I (z_g C) 20 k_0), (q4, k_I (z_g C) 20 k_0), (q5, k_I (z_g C) 20 k_0)] 5 280 47 [(0, .ref h0)] [.ref q5, .ref h0]
  refine k_putF hx 0 rfl rfl z_inX2 tyX2 tyX2_ok nmX2 5 (by decide) wf_X2_28 rfl rfl rfl rfl rfl (Nat.le_of_ble_eq_true rfl) (ws' := [(h0, .inr (2, [.ref q1, .int (zi 0), .ref q2, .ref q3, .ref q4, .ref q5, .null, .int 0, .null])), (q1, k_I (z_g C) 200 k_0), (q2, k_I (z_g C) 20 k_0), (q3, k_I (z_g C) 20 k_0), (q4, k_I (z_g C) 20 k_0), (q5, k_I (z_g C) 20 k_0)]) rfl dX2_init_47 ?_
  refine k_aload_n hx 0 dX2_init_50 rfl ?_
  refine k_bipush hx (v := 20) dX2_init_51 rfl ?_
  refine k_newZ hx (N := 20) wa_Z (by decide) rfl (by decide) (by rw [hR]; exact ⟨Nat.le_of_ble_eq_true rfl, Nat.le_of_ble_eq_true rfl⟩) dX2_init_53 (fun q6 => ?_)
  show k_W C [(h0, .inr (2, [.ref q1, .int (zi 0), .ref q2, .ref q3, .ref q4, .ref q5, .null, .int 0, .null])), (q1, k_I (z_g C) 200 k_0), (q2, k_I (z_g C) 20 k_0), (q3, k_I (z_g C) 20 k_0), (q4, k_I (z_g C) 20 k_0), (q5, k_I (z_g C) 20 k_0), (q6, k_Z (z_g C) 20 k_0)] 6 300 55 [(0, .ref h0)] [.ref q6, .ref h0]
  refine k_putF hx 0 rfl rfl z_inX2 tyX2 tyX2_ok nmX2 6 (by decide) wf_X2_31 rfl rfl rfl rfl rfl (Nat.le_of_ble_eq_true rfl) (ws' := [(h0, .inr (2, [.ref q1, .int (zi 0), .ref q2, .ref q3, .ref q4, .ref q5, .ref q6, .int 0, .null])), (q1, k_I (z_g C) 200 k_0), (q2, k_I (z_g C) 20 k_0), (q3, k_I (z_g C) 20 k_0), (q4, k_I (z_g C) 20 k_0), (q5, k_I (z_g C) 20 k_0), (q6, k_Z (z_g C) 20 k_0)]) rfl dX2_init_55 ?_
  refine k_aload_n hx 0 dX2_init_58 rfl ?_
  refine k_iconst hx (v := 0) dX2_init_59 ?_
  refine k_put hx 0 rfl rfl z_inX2 tyX2 tyX2_ok nmX2 7 (by decide) wf_X2_35 rfl rfl rfl (Nat.le_of_ble_eq_true rfl) (ws' := [(h0, .inr (2, [.ref q1, .int (zi 0), .ref q2, .ref q3, .ref q4, .ref q5, .ref q6, .int (zi 0), .null])), (q1, k_I (z_g C) 200 k_0), (q2, k_I (z_g C) 20 k_0), (q3, k_I (z_g C) 20 k_0), (q4, k_I (z_g C) 20 k_0), (q5, k_I (z_g C) 20 k_0), (q6, k_Z (z_g C) 20 k_0)]) rfl dX2_init_60 ?_
  refine k_aload_n hx 0 dX2_init_63 rfl ?_
  refine k_bipush hx (v := 7) dX2_init_64 rfl ?_
  refine k_newI hx (N := 7) wa_I (by decide) rfl (by decide) (by rw [hR]; exact ⟨Nat.le_of_ble_eq_true rfl, Nat.le_of_ble_eq_true rfl⟩) dX2_init_66 (fun q7 => ?_)
  show k_W C [(h0, .inr (2, [.ref q1, .int (zi 0), .ref q2, .ref q3, .ref q4, .ref q5, .ref q6, .int (zi 0), .null])), (q1, k_I (z_g C) 200 k_0), (q2, k_I (z_g C) 20 k_0), (q3, k_I (z_g C) 20 k_0), (q4, k_I (z_g C) 20 k_0), (q5, k_I (z_g C) 20 k_0), (q6, k_Z (z_g C) 20 k_0), (q7, k_I (z_g C) 7 k_0)] 7 307 68 [(0, .ref h0)] [.ref q7, .ref h0]
  refine k_putF hx 0 rfl rfl z_inX2 tyX2 tyX2_ok nmX2 8 (by decide) wf_X2_38 rfl rfl rfl rfl rfl (Nat.le_of_ble_eq_true rfl) (ws' := [(h0, .inr (2, [.ref q1, .int (zi 0), .ref q2, .ref q3, .ref q4, .ref q5, .ref q6, .int (zi 0), .ref q7])), (q1, k_I (z_g C) 200 k_0), (q2, k_I (z_g C) 20 k_0), (q3, k_I (z_g C) 20 k_0), (q4, k_I (z_g C) 20 k_0), (q5, k_I (z_g C) 20 k_0), (q6, k_Z (z_g C) 20 k_0), (q7, k_I (z_g C) 7 k_0)]) rfl dX2_init_68 ?_
  refine k_gets hx dX2_init_71 ?_
  refine k_iconst hx (v := 0) dX2_init_74 ?_
  refine k_aload_n hx 0 dX2_init_75 rfl ?_
  refine k_get hx 0 rfl rfl z_inX2 8 (by decide) wf_X2_38 rfl rfl dX2_init_76 ?_
  refine k_iconst hx (v := 0) dX2_init_79 ?_
  refine k_bipush hx (v := 7) dX2_init_80 rfl ?_
  refine k_copy hx wm_X2_44 wna_ac wst_ac wi_J10 7 rfl (ws' := [(h0, .inr (2, [.ref q1, .int (zi 0), .ref q2, .ref q3, .ref q4, .ref q5, .ref q6, .int (zi 0), .ref q7])), (q1, k_I (z_g C) 200 k_0), (q2, k_I (z_g C) 20 k_0), (q3, k_I (z_g C) 20 k_0), (q4, k_I (z_g C) 20 k_0), (q5, k_I (z_g C) 20 k_0), (q6, k_Z (z_g C) 20 k_0), (q7, k_I (z_g C) 7 k_set)]) rfl (by rw [hR]; exact ⟨Nat.le_of_ble_eq_true rfl, Nat.le_of_ble_eq_true rfl⟩) (by decide) dX2_init_82 ?_
  exact k_ret hx hq (fun k => ([h0, q1, q2, q3, q4, q5, q6, q7] : List Nat).getD k 0) [0, 1, 2, 3, 4, 5, 6, 7] rfl (by decide) rfl (by rw [hR]; exact ⟨Nat.le_of_ble_eq_true rfl, Nat.le_of_ble_eq_true rfl⟩) dX2_init_85
theorem dX0_init_0 : decode cX0_init 0 = .ok (.aload_n 0, 1) := by decide +kernel
theorem dX0_init_1 : decode cX0_init 1 = .ok (.invokespecial 3, 3) := by decide +kernel
theorem dX0_init_4 : decode cX0_init 4 = .ok (.aload_n 0, 1) := by decide +kernel
theorem dX0_init_5 : decode cX0_init 5 = .ok (.bipush 20, 2) := by decide +kernel
theorem dX0_init_7 : decode cX0_init 7 = .ok (.newarray .int, 2) := by decide +kernel
theorem dX0_init_9 : decode cX0_init 9 = .ok (.putfield 9, 3) := by decide +kernel
theorem dX0_init_12 : decode cX0_init 12 = .ok (.aload_n 0, 1) := by decide +kernel
theorem dX0_init_13 : decode cX0_init 13 = .ok (.bipush 20, 2) := by decide +kernel
theorem dX0_init_15 : decode cX0_init 15 = .ok (.newarray .int, 2) := by decide +kernel
theorem dX0_init_17 : decode cX0_init 17 = .ok (.putfield 15, 3) := by decide +kernel
theorem dX0_init_20 : decode cX0_init 20 = .ok (.aload_n 0, 1) := by decide +kernel
theorem dX0_init_21 : decode cX0_init 21 = .ok (.bipush 20, 2) := by decide +kernel
theorem dX0_init_23 : decode cX0_init 23 = .ok (.newarray .int, 2) := by decide +kernel
theorem dX0_init_25 : decode cX0_init 25 = .ok (.putfield 18, 3) := by decide +kernel
theorem dX0_init_28 : decode cX0_init 28 = .ok (.aload_n 0, 1) := by decide +kernel
theorem dX0_init_29 : decode cX0_init 29 = .ok (.bipush 20, 2) := by decide +kernel
theorem dX0_init_31 : decode cX0_init 31 = .ok (.newarray .boolean, 2) := by decide +kernel
theorem dX0_init_33 : decode cX0_init 33 = .ok (.putfield 21, 3) := by decide +kernel
theorem dX0_init_36 : decode cX0_init 36 = .ok (.aload_n 0, 1) := by decide +kernel
theorem dX0_init_37 : decode cX0_init 37 = .ok (.bipush 20, 2) := by decide +kernel
theorem dX0_init_39 : decode cX0_init 39 = .ok (.newarray .int, 2) := by decide +kernel
theorem dX0_init_41 : decode cX0_init 41 = .ok (.putfield 25, 3) := by decide +kernel
theorem dX0_init_44 : decode cX0_init 44 = .ok (.aload_n 0, 1) := by decide +kernel
theorem dX0_init_45 : decode cX0_init 45 = .ok (.iconst 0, 1) := by decide +kernel
theorem dX0_init_46 : decode cX0_init 46 = .ok (.putfield 28, 3) := by decide +kernel
theorem dX0_init_49 : decode cX0_init 49 = .ok (.return_, 1) := by decide +kernel
def wd_X0 (g : zG) (h0 : Nat) (u : Nat → Nat) : va_W := [(h0, .inr (0, [.ref (u 1), .ref (u 2), .ref (u 3), .ref (u 4), .ref (u 5), .int (zi 0)])), (u 1, k_I g 20 k_0), (u 2, k_I g 20 k_0), (u 3, k_I g 20 k_0), (u 4, k_Z g 20 k_0), (u 5, k_I g 20 k_0)]
abbrev rm_X0_init : Room := { frames := 1, cells := 5, slots := 100, locals := 12 }
set_option maxRecDepth 100000 in
set_option maxHeartbeats 4000000 in
theorem met_X0_init (l : Launch) (g : zG) (gs h0 : Nat) : k_Met l yX0_init cX0_init 1 rm_X0_init g gs h0 (.inr (0, [.null, .null, .null, .null, .null, .int 0])) (wd_X0 g h0) := by
  refine k_enter (own := RX0) (by decide) rfl rfl (by decide) (fun C hx hl hg hR hn hq => ?_)
  subst hg
  subst hl
  refine k_aload_n hx 0 dX0_init_0 rfl ?_
  refine k_obj hx wm_X0_3 win_O wc_O (by rw [hR]; exact ⟨Nat.le_of_ble_eq_true rfl, Nat.le_of_ble_eq_true rfl⟩) dX0_init_1 ?_
  refine k_aload_n hx 0 dX0_init_4 rfl ?_
  refine k_bipush hx (v := 20) dX0_init_5 rfl ?_
  refine k_newI hx (N := 20) wa_I (by decide) rfl (by decide) (by rw [hR]; exact ⟨Nat.le_of_ble_eq_true rfl, Nat.le_of_ble_eq_true rfl⟩) dX0_init_7 (fun q1 => ?_)
  show k_W C [(h0, .inr (0, [.null, .null, .null, .null, .null, .int 0])), (q1, k_I (z_g C) 20 k_0)] 1 20 9 [(0, .ref h0)] [.ref q1, .ref h0]
  refine k_putF hx 0 rfl rfl z_inX0 tyX0 tyX0_ok nmX0 0 (by decide) wf_X0_9 rfl rfl rfl rfl rfl (Nat.le_of_ble_eq_true rfl) (ws' := [(h0, .inr (0, [.ref q1, .null, .null, .null, .null, .int 0])), (q1, k_I (z_g C) 20 k_0)]) rfl dX0_init_9 ?_
  refine k_aload_n hx 0 dX0_init_12 rfl ?_
  refine k_bipush hx (v := 20) dX0_init_13 rfl ?_
  refine k_newI hx (N := 20) wa_I (by decide) rfl (by decide) (by rw [hR]; exact ⟨Nat.le_of_ble_eq_true rfl, Nat.le_of_ble_eq_true rfl⟩) dX0_init_15 (fun q2 => ?_)
  show k_W C [(h0, .inr (0, [.ref q1, .null, .null, .null, .null, .int 0])), (q1, k_I (z_g C) 20 k_0), (q2, k_I (z_g C) 20 k_0)] 2 40 17 [(0, .ref h0)] [.ref q2, .ref h0]
  refine k_putF hx 0 rfl rfl z_inX0 tyX0 tyX0_ok nmX0 1 (by decide) wf_X0_15 rfl rfl rfl rfl rfl (Nat.le_of_ble_eq_true rfl) (ws' := [(h0, .inr (0, [.ref q1, .ref q2, .null, .null, .null, .int 0])), (q1, k_I (z_g C) 20 k_0), (q2, k_I (z_g C) 20 k_0)]) rfl dX0_init_17 ?_
  refine k_aload_n hx 0 dX0_init_20 rfl ?_
  refine k_bipush hx (v := 20) dX0_init_21 rfl ?_
  refine k_newI hx (N := 20) wa_I (by decide) rfl (by decide) (by rw [hR]; exact ⟨Nat.le_of_ble_eq_true rfl, Nat.le_of_ble_eq_true rfl⟩) dX0_init_23 (fun q3 => ?_)
  show k_W C [(h0, .inr (0, [.ref q1, .ref q2, .null, .null, .null, .int 0])), (q1, k_I (z_g C) 20 k_0), (q2, k_I (z_g C) 20 k_0), (q3, k_I (z_g C) 20 k_0)] 3 60 25 [(0, .ref h0)] [.ref q3, .ref h0]
  refine k_putF hx 0 rfl rfl z_inX0 tyX0 tyX0_ok nmX0 2 (by decide) wf_X0_18 rfl rfl rfl rfl rfl (Nat.le_of_ble_eq_true rfl) (ws' := [(h0, .inr (0, [.ref q1, .ref q2, .ref q3, .null, .null, .int 0])), (q1, k_I (z_g C) 20 k_0), (q2, k_I (z_g C) 20 k_0), (q3, k_I (z_g C) 20 k_0)]) rfl dX0_init_25 ?_
  refine k_aload_n hx 0 dX0_init_28 rfl ?_
  refine k_bipush hx (v := 20) dX0_init_29 rfl ?_
  refine k_newZ hx (N := 20) wa_Z (by decide) rfl (by decide) (by rw [hR]; exact ⟨Nat.le_of_ble_eq_true rfl, Nat.le_of_ble_eq_true rfl⟩) dX0_init_31 (fun q4 => ?_)
  show k_W C [(h0, .inr (0, [.ref q1, .ref q2, .ref q3, .null, .null, .int 0])), (q1, k_I (z_g C) 20 k_0), (q2, k_I (z_g C) 20 k_0), (q3, k_I (z_g C) 20 k_0), (q4, k_Z (z_g C) 20 k_0)] 4 80 33 [(0, .ref h0)] [.ref q4, .ref h0]
  refine k_putF hx 0 rfl rfl z_inX0 tyX0 tyX0_ok nmX0 3 (by decide) wf_X0_21 rfl rfl rfl rfl rfl (Nat.le_of_ble_eq_true rfl) (ws' := [(h0, .inr (0, [.ref q1, .ref q2, .ref q3, .ref q4, .null, .int 0])), (q1, k_I (z_g C) 20 k_0), (q2, k_I (z_g C) 20 k_0), (q3, k_I (z_g C) 20 k_0), (q4, k_Z (z_g C) 20 k_0)]) rfl dX0_init_33 ?_
  refine k_aload_n hx 0 dX0_init_36 rfl ?_
  refine k_bipush hx (v := 20) dX0_init_37 rfl ?_
  refine k_newI hx (N := 20) wa_I (by decide) rfl (by decide) (by rw [hR]; exact ⟨Nat.le_of_ble_eq_true rfl, Nat.le_of_ble_eq_true rfl⟩) dX0_init_39 (fun q5 => ?_)
  show k_W C [(h0, .inr (0, [.ref q1, .ref q2, .ref q3, .ref q4, .null, .int 0])), (q1, k_I (z_g C) 20 k_0), (q2, k_I (z_g C) 20 k_0), (q3, k_I (z_g C) 20 k_0), (q4, k_Z (z_g C) 20 k_0), (q5, k_I (z_g C) 20 k_0)] 5 100 41 [(0, .ref h0)] [.ref q5, .ref h0]
  refine k_putF hx 0 rfl rfl z_inX0 tyX0 tyX0_ok nmX0 4 (by decide) wf_X0_25 rfl rfl rfl rfl rfl (Nat.le_of_ble_eq_true rfl) (ws' := [(h0, .inr (0, [.ref q1, .ref q2, .ref q3, .ref q4, .ref q5, .int 0])), (q1, k_I (z_g C) 20 k_0), (q2, k_I (z_g C) 20 k_0), (q3, k_I (z_g C) 20 k_0), (q4, k_Z (z_g C) 20 k_0), (q5, k_I (z_g C) 20 k_0)]) rfl dX0_init_41 ?_
  refine k_aload_n hx 0 dX0_init_44 rfl ?_
  refine k_iconst hx (v := 0) dX0_init_45 ?_
  refine k_put hx 0 rfl rfl z_inX0 tyX0 tyX0_ok nmX0 5 (by decide) wf_X0_28 rfl rfl rfl (Nat.le_of_ble_eq_true rfl) (ws' := [(h0, .inr (0, [.ref q1, .ref q2, .ref q3, .ref q4, .ref q5, .int (zi 0)])), (q1, k_I (z_g C) 20 k_0), (q2, k_I (z_g C) 20 k_0), (q3, k_I (z_g C) 20 k_0), (q4, k_Z (z_g C) 20 k_0), (q5, k_I (z_g C) 20 k_0)]) rfl dX0_init_46 ?_
  exact k_ret hx hq (fun k => ([h0, q1, q2, q3, q4, q5] : List Nat).getD k 0) [0, 1, 2, 3, 4, 5] rfl (by decide) rfl (by rw [hR]; exact ⟨Nat.le_of_ble_eq_true rfl, Nat.le_of_ble_eq_true rfl⟩) dX0_init_49
theorem dX3_init_0 : decode cX3_init 0 = .ok (.aload_n 0, 1) := by decide +kernel
theorem dX3_init_1 : decode cX3_init 1 = .ok (.invokespecial 3, 3) := by decide +kernel
theorem dX3_init_4 : decode cX3_init 4 = .ok (.aload_n 0, 1) := by decide +kernel
theorem dX3_init_5 : decode cX3_init 5 = .ok (.sipush 200, 3) := by decide +kernel
theorem dX3_init_8 : decode cX3_init 8 = .ok (.newarray .int, 2) := by decide +kernel
theorem dX3_init_10 : decode cX3_init 10 = .ok (.putfield 9, 3) := by decide +kernel
theorem dX3_init_13 : decode cX3_init 13 = .ok (.aload_n 0, 1) := by decide +kernel
theorem dX3_init_14 : decode cX3_init 14 = .ok (.sipush 200, 3) := by decide +kernel
theorem dX3_init_17 : decode cX3_init 17 = .ok (.newarray .int, 2) := by decide +kernel
theorem dX3_init_19 : decode cX3_init 19 = .ok (.putfield 15, 3) := by decide +kernel
theorem dX3_init_22 : decode cX3_init 22 = .ok (.aload_n 0, 1) := by decide +kernel
theorem dX3_init_23 : decode cX3_init 23 = .ok (.iconst 0, 1) := by decide +kernel
theorem dX3_init_24 : decode cX3_init 24 = .ok (.putfield 18, 3) := by decide +kernel
theorem dX3_init_27 : decode cX3_init 27 = .ok (.aload_n 0, 1) := by decide +kernel
theorem dX3_init_28 : decode cX3_init 28 = .ok (.sipush 200, 3) := by decide +kernel
theorem dX3_init_31 : decode cX3_init 31 = .ok (.newarray .int, 2) := by decide +kernel
theorem dX3_init_33 : decode cX3_init 33 = .ok (.putfield 22, 3) := by decide +kernel
theorem dX3_init_36 : decode cX3_init 36 = .ok (.aload_n 0, 1) := by decide +kernel
theorem dX3_init_37 : decode cX3_init 37 = .ok (.iconst 0, 1) := by decide +kernel
theorem dX3_init_38 : decode cX3_init 38 = .ok (.putfield 25, 3) := by decide +kernel
theorem dX3_init_41 : decode cX3_init 41 = .ok (.aload_n 0, 1) := by decide +kernel
theorem dX3_init_42 : decode cX3_init 42 = .ok (.iconst 0, 1) := by decide +kernel
theorem dX3_init_43 : decode cX3_init 43 = .ok (.putfield 28, 3) := by decide +kernel
theorem dX3_init_46 : decode cX3_init 46 = .ok (.aload_n 0, 1) := by decide +kernel
theorem dX3_init_47 : decode cX3_init 47 = .ok (.sipush 200, 3) := by decide +kernel
theorem dX3_init_50 : decode cX3_init 50 = .ok (.newarray .boolean, 2) := by decide +kernel
theorem dX3_init_52 : decode cX3_init 52 = .ok (.putfield 31, 3) := by decide +kernel
theorem dX3_init_55 : decode cX3_init 55 = .ok (.return_, 1) := by decide +kernel
def wd_X3 (g : zG) (h0 : Nat) (u : Nat → Nat) : va_W := [(h0, .inr (3, [.ref (u 1), .ref (u 2), .int (zi 0), .ref (u 3), .int (zi 0), .int (zi 0), .ref (u 4)])), (u 1, k_I g 200 k_0), (u 2, k_I g 200 k_0), (u 3, k_I g 200 k_0), (u 4, k_Z g 200 k_0)]
abbrev rm_X3_init : Room := { frames := 1, cells := 4, slots := 800, locals := 12 }
set_option maxRecDepth 100000 in
set_option maxHeartbeats 4000000 in
theorem met_X3_init (l : Launch) (g : zG) (gs h0 : Nat) : k_Met l yX3_init cX3_init 1 rm_X3_init g gs h0 (.inr (3, [.null, .null, .int 0, .null, .int 0, .int 0, .null])) (wd_X3 g h0) := by
  refine k_enter (own := RX3) (by decide) rfl rfl (by decide) (fun C hx hl hg hR hn hq => ?_)
  subst hg
  subst hl
  refine k_aload_n hx 0 dX3_init_0 rfl ?_
  refine k_obj hx wm_X3_3 win_O wc_O (by rw [hR]; exact ⟨Nat.le_of_ble_eq_true rfl, Nat.le_of_ble_eq_true rfl⟩) dX3_init_1 ?_
  refine k_aload_n hx 0 dX3_init_4 rfl ?_
  refine k_sipush hx (v := 200) dX3_init_5 rfl ?_
  refine k_newI hx (N := 200) wa_I (by decide) rfl (by decide) (by rw [hR]; exact ⟨Nat.le_of_ble_eq_true rfl, Nat.le_of_ble_eq_true rfl⟩) dX3_init_8 (fun q1 => ?_)
  show k_W C [(h0, .inr (3, [.null, .null, .int 0, .null, .int 0, .int 0, .null])), (q1, k_I (z_g C) 200 k_0)] 1 200 10 [(0, .ref h0)] [.ref q1, .ref h0]
  refine k_putF hx 0 rfl rfl z_inX3 tyX3 tyX3_ok nmX3 0 (by decide) wf_X3_9 rfl rfl rfl rfl rfl (Nat.le_of_ble_eq_true rfl) (ws' := [(h0, .inr (3, [.ref q1, .null, .int 0, .null, .int 0, .int 0, .null])), (q1, k_I (z_g C) 200 k_0)]) rfl dX3_init_10 ?_
  refine k_aload_n hx 0 dX3_init_13 rfl ?_
  refine k_sipush hx (v := 200) dX3_init_14 rfl ?_
  refine k_newI hx (N := 200) wa_I (by decide) rfl (by decide) (by rw [hR]; exact ⟨Nat.le_of_ble_eq_true rfl, Nat.le_of_ble_eq_true rfl⟩) dX3_init_17 (fun q2 => ?_)
  show k_W C [(h0, .inr (3, [.ref q1, .null, .int 0, .null, .int 0, .int 0, .null])), (q1, k_I (z_g C) 200 k_0), (q2, k_I (z_g C) 200 k_0)] 2 400 19 [(0, .ref h0)] [.ref q2, .ref h0]
  refine k_putF hx 0 rfl rfl z_inX3 tyX3 tyX3_ok nmX3 1 (by decide) wf_X3_15 rfl rfl rfl rfl rfl (Nat.le_of_ble_eq_true rfl) (ws' := [(h0, .inr (3, [.ref q1, .ref q2, .int 0, .null, .int 0, .int 0, .null])), (q1, k_I (z_g C) 200 k_0), (q2, k_I (z_g C) 200 k_0)]) rfl dX3_init_19 ?_
  refine k_aload_n hx 0 dX3_init_22 rfl ?_
  refine k_iconst hx (v := 0) dX3_init_23 ?_
  refine k_put hx 0 rfl rfl z_inX3 tyX3 tyX3_ok nmX3 2 (by decide) wf_X3_18 rfl rfl rfl (Nat.le_of_ble_eq_true rfl) (ws' := [(h0, .inr (3, [.ref q1, .ref q2, .int (zi 0), .null, .int 0, .int 0, .null])), (q1, k_I (z_g C) 200 k_0), (q2, k_I (z_g C) 200 k_0)]) rfl dX3_init_24 ?_
  refine k_aload_n hx 0 dX3_init_27 rfl ?_
  refine k_sipush hx (v := 200) dX3_init_28 rfl ?_
  refine k_newI hx (N := 200) wa_I (by decide) rfl (by decide) (by rw [hR]; exact ⟨Nat.le_of_ble_eq_true rfl, Nat.le_of_ble_eq_true rfl⟩) dX3_init_31 (fun q3 => ?_)
  show k_W C [(h0, .inr (3, [.ref q1, .ref q2, .int (zi 0), .null, .int 0, .int 0, .null])), (q1, k_I (z_g C) 200 k_0), (q2, k_I (z_g C) 200 k_0), (q3, k_I (z_g C) 200 k_0)] 3 600 33 [(0, .ref h0)] [.ref q3, .ref h0]
  refine k_putF hx 0 rfl rfl z_inX3 tyX3 tyX3_ok nmX3 3 (by decide) wf_X3_22 rfl rfl rfl rfl rfl (Nat.le_of_ble_eq_true rfl) (ws' := [(h0, .inr (3, [.ref q1, .ref q2, .int (zi 0), .ref q3, .int 0, .int 0, .null])), (q1, k_I (z_g C) 200 k_0), (q2, k_I (z_g C) 200 k_0), (q3, k_I (z_g C) 200 k_0)]) rfl dX3_init_33 ?_
  refine k_aload_n hx 0 dX3_init_36 rfl ?_
  refine k_iconst hx (v := 0) dX3_init_37 ?_
  refine k_put hx 0 rfl rfl z_inX3 tyX3 tyX3_ok nmX3 4 (by decide) wf_X3_25 rfl rfl rfl (Nat.le_of_ble_eq_true rfl) (ws' := [(h0, .inr (3, [.ref q1, .ref q2, .int (zi 0), .ref q3, .int (zi 0), .int 0, .null])), (q1, k_I (z_g C) 200 k_0), (q2, k_I (z_g C) 200 k_0), (q3, k_I (z_g C) 200 k_0)]) rfl dX3_init_38 ?_
  refine k_aload_n hx 0 dX3_init_41 rfl ?_
  refine k_iconst hx (v := 0) dX3_init_42 ?_
  refine k_put hx 0 rfl rfl z_inX3 tyX3 tyX3_ok nmX3 5 (by decide) wf_X3_28 rfl rfl rfl (Nat.le_of_ble_eq_true rfl) (ws' := [(h0, .inr (3, [.ref q1, .ref q2, .int (zi 0), .ref q3, .int (zi 0), .int (zi 0), .null])), (q1, k_I (z_g C) 200 k_0), (q2, k_I (z_g C) 200 k_0), (q3, k_I (z_g C) 200 k_0)]) rfl dX3_init_43 ?_
  refine k_aload_n hx 0 dX3_init_46 rfl ?_
  refine k_sipush hx (v := 200) dX3_init_47 rfl ?_
  refine k_newZ hx (N := 200) wa_Z (by decide) rfl (by decide) (by rw [hR]; exact ⟨Nat.le_of_ble_eq_true rfl, Nat.le_of_ble_eq_true rfl⟩) dX3_init_50 (fun q4 => ?_)
  show k_W C [(h0, .inr (3, [.ref q1, .ref q2, .int (zi 0), .ref q3, .int (zi 0), .int (zi 0), .null])), (q1, k_I (z_g C) 200 k_0), (q2, k_I (z_g C) 200 k_0), (q3, k_I (z_g C) 200 k_0), (q4, k_Z (z_g C) 200 k_0)] 4 800 52 [(0, .ref h0)] [.ref q4, .ref h0]
  refine k_putF hx 0 rfl rfl z_inX3 tyX3 tyX3_ok nmX3 6 (by decide) wf_X3_31 rfl rfl rfl rfl rfl (Nat.le_of_ble_eq_true rfl) (ws' := [(h0, .inr (3, [.ref q1, .ref q2, .int (zi 0), .ref q3, .int (zi 0), .int (zi 0), .ref q4])), (q1, k_I (z_g C) 200 k_0), (q2, k_I (z_g C) 200 k_0), (q3, k_I (z_g C) 200 k_0), (q4, k_Z (z_g C) 200 k_0)]) rfl dX3_init_52 ?_
  exact k_ret hx hq (fun k => ([h0, q1, q2, q3, q4] : List Nat).getD k 0) [0, 1, 2, 3, 4] rfl (by decide) rfl (by rw [hR]; exact ⟨Nat.le_of_ble_eq_true rfl, Nat.le_of_ble_eq_true rfl⟩) dX3_init_55
theorem dX4_init_0 : decode cX4_init 0 = .ok (.aload_n 0, 1) := by decide +kernel
theorem dX4_init_1 : decode cX4_init 1 = .ok (.invokespecial 3, 3) := by decide +kernel
theorem dX4_init_4 : decode cX4_init 4 = .ok (.aload_n 0, 1) := by decide +kernel
theorem dX4_init_5 : decode cX4_init 5 = .ok (.new 9, 3) := by decide +kernel
theorem dX4_init_8 : decode cX4_init 8 = .ok (.dup, 1) := by decide +kernel
theorem dX4_init_9 : decode cX4_init 9 = .ok (.invokespecial 11, 3) := by decide +kernel
theorem dX4_init_12 : decode cX4_init 12 = .ok (.putfield 12, 3) := by decide +kernel
theorem dX4_init_15 : decode cX4_init 15 = .ok (.return_, 1) := by decide +kernel
def wd_X4 (g : zG) (h0 : Nat) (u : Nat → Nat) : va_W := [(h0, .inr (4, [.ref (u 1), .int 0, .int 0, .int 0, .int 0, .int 0, .int 0])), (u 1, .inr (2, [.ref (u 2), .int (zi 0), .ref (u 3), .ref (u 4), .ref (u 5), .ref (u 6), .ref (u 7), .int (zi 0), .ref (u 8)])), (u 2, k_I g 200 k_0), (u 3, k_I g 20 k_0), (u 4, k_I g 20 k_0), (u 5, k_I g 20 k_0), (u 6, k_I g 20 k_0), (u 7, k_Z g 20 k_0), (u 8, k_I g 7 k_set)]
abbrev rm_X4_init : Room := { frames := 2, cells := 8, slots := 316, locals := 80 }
set_option maxRecDepth 100000 in
set_option maxHeartbeats 4000000 in
theorem met_X4_init (l : Launch) (g : zG) (gs h0 : Nat) : k_Met l yX4_init cX4_init 1 rm_X4_init g gs h0 (.inr (4, [.null, .int 0, .int 0, .int 0, .int 0, .int 0, .int 0])) (wd_X4 g h0) := by
  refine k_enter (own := RX4) (by decide) rfl rfl (by decide) (fun C hx hl hg hR hn hq => ?_)
  subst hg
  subst hl
  refine k_aload_n hx 0 dX4_init_0 rfl ?_
  refine k_obj hx wm_X4_3 win_O wc_O (by rw [hR]; exact ⟨Nat.le_of_ble_eq_true rfl, Nat.le_of_ble_eq_true rfl⟩) dX4_init_1 ?_
  refine k_aload_n hx 0 dX4_init_4 rfl ?_
  refine k_new hx (ci := 2) rfl z_inX2 tyX2 tyX2_ok wcl_X4_9 wins_X2 wi_X2 [.null, .int 0, .null, .null, .null, .null, .null, .int 0, .null] (fun j hj => by rcases (show j = 0 ∨ j = 1 ∨ j = 2 ∨ j = 3 ∨ j = 4 ∨ j = 5 ∨ j = 6 ∨ j = 7 ∨ j = 8 by omega) with rfl | rfl | rfl | rfl | rfl | rfl | rfl | rfl | rfl <;> rfl) (by rw [hR]; exact ⟨Nat.le_of_ble_eq_true rfl, Nat.le_of_ble_eq_true rfl⟩) dX4_init_5 (fun q1 => ?_)
  show k_W C [(h0, .inr (4, [.null, .int 0, .int 0, .int 0, .int 0, .int 0, .int 0])), (q1, .inr (2, [.null, .int 0, .null, .null, .null, .null, .null, .int 0, .null]))] 1 9 8 [(0, .ref h0)] [.ref q1, .ref h0]
  refine k_dup hx dX4_init_8 rfl ?_
  refine k_call hx (wr := [(h0, .inr (4, [.null, .int 0, .int 0, .int 0, .int 0, .int 0, .int 0]))]) (met_X2_init (z_l C) (z_g C) gs (q1)) (Or.inl wm_X4_11) win_X2_init wi_X2 wc_X2_init rfl (by decide +kernel) (by rw [hR]; exact ⟨⟨Nat.le_of_ble_eq_true rfl, Nat.le_of_ble_eq_true rfl⟩, Nat.le_of_ble_eq_true rfl, Nat.le_of_ble_eq_true rfl⟩) 1 [0] rfl rfl (by decide) (by decide) (Nat.le_of_ble_eq_true rfl) dX4_init_9 (fun u1 => ?_)
  show k_W C [(h0, .inr (4, [.null, .int 0, .int 0, .int 0, .int 0, .int 0, .int 0])), (q1, .inr (2, [.ref (u1 1), .int (zi 0), .ref (u1 2), .ref (u1 3), .ref (u1 4), .ref (u1 5), .ref (u1 6), .int (zi 0), .ref (u1 7)])), (u1 1, k_I (z_g C) 200 k_0), (u1 2, k_I (z_g C) 20 k_0), (u1 3, k_I (z_g C) 20 k_0), (u1 4, k_I (z_g C) 20 k_0), (u1 5, k_I (z_g C) 20 k_0), (u1 6, k_Z (z_g C) 20 k_0), (u1 7, k_I (z_g C) 7 k_set)] 8 316 12 [(0, .ref h0)] [.ref q1, .ref h0]
  refine k_putF hx 0 rfl rfl z_inX4 tyX4 tyX4_ok nmX4 0 (by decide) wf_X4_12 rfl rfl rfl rfl rfl (Nat.le_of_ble_eq_true rfl) (ws' := [(h0, .inr (4, [.ref q1, .int 0, .int 0, .int 0, .int 0, .int 0, .int 0])), (q1, .inr (2, [.ref (u1 1), .int (zi 0), .ref (u1 2), .ref (u1 3), .ref (u1 4), .ref (u1 5), .ref (u1 6), .int (zi 0), .ref (u1 7)])), (u1 1, k_I (z_g C) 200 k_0), (u1 2, k_I (z_g C) 20 k_0), (u1 3, k_I (z_g C) 20 k_0), (u1 4, k_I (z_g C) 20 k_0), (u1 5, k_I (z_g C) 20 k_0), (u1 6, k_Z (z_g C) 20 k_0), (u1 7, k_I (z_g C) 7 k_set)]) rfl dX4_init_12 ?_
  exact k_ret hx hq (fun k => ([h0, q1, u1 1, u1 2, u1 3, u1 4, u1 5, u1 6, u1 7] : List Nat).getD k 0) [0, 1, 2, 3, 4, 5, 6, 7, 8] rfl (by decide) rfl (by rw [hR]; exact ⟨Nat.le_of_ble_eq_true rfl, Nat.le_of_ble_eq_true rfl⟩) dX4_init_15
