theorem btw0 : (okW 290 (Cond.methodLink "PalmHours$Reader" 11 ⟨"PalmHours$Tokens", "<init>", "(LPalmHours$Tape;)V"⟩) && (okW 291 (Cond.instanceMethod ⟨"PalmHours$Tokens", "<init>", "(LPalmHours$Tape;)V"⟩) && (okW 295 (Cond.methodLink "PalmHours$Tokens" 43 ⟨"java/lang/String", "length", "()I"⟩) && (okW 305 (Cond.methodLink "PalmHours$Tokens" 49 ⟨"java/lang/String", "charAt", "(I)C"⟩) && (okW 385 (Cond.methodLink "PalmHours$Reader" 28 ⟨"PalmHours$Phrases", "<init>", "(LPalmHours$Tokens;LPalmHours$Formula;)V"⟩) && (okW 386 (Cond.instanceMethod ⟨"PalmHours$Phrases", "<init>", "(LPalmHours$Tokens;LPalmHours$Formula;)V"⟩) && (true))))))) = true := by decide +kernel
theorem w290 : Cond.methodLink "PalmHours$Reader" 11 ⟨"PalmHours$Tokens", "<init>", "(LPalmHours$Tape;)V"⟩ ∈ lw_g := okW_g (an1 btw0)
theorem w291 : Cond.instanceMethod ⟨"PalmHours$Tokens", "<init>", "(LPalmHours$Tape;)V"⟩ ∈ lw_g := okW_g (an1 (an2 btw0))
theorem w295 : Cond.methodLink "PalmHours$Tokens" 43 ⟨"java/lang/String", "length", "()I"⟩ ∈ lw_g := okW_g (an1 (an2 (an2 btw0)))
theorem w305 : Cond.methodLink "PalmHours$Tokens" 49 ⟨"java/lang/String", "charAt", "(I)C"⟩ ∈ lw_g := okW_g (an1 (an2 (an2 (an2 btw0))))
theorem w385 : Cond.methodLink "PalmHours$Reader" 28 ⟨"PalmHours$Phrases", "<init>", "(LPalmHours$Tokens;LPalmHours$Formula;)V"⟩ ∈ lw_g := okW_g (an1 (an2 (an2 (an2 (an2 btw0)))))
theorem w386 : Cond.instanceMethod ⟨"PalmHours$Phrases", "<init>", "(LPalmHours$Tokens;LPalmHours$Formula;)V"⟩ ∈ lw_g := okW_g (an1 (an2 (an2 (an2 (an2 (an2 btw0))))))
theorem btw1 : (wdC 292 ⟨"PalmHours$Tokens", "<init>", "(LPalmHours$Tape;)V"⟩ cX8_init 7 none && (wdC 387 ⟨"PalmHours$Phrases", "<init>", "(LPalmHours$Tokens;LPalmHours$Formula;)V"⟩ cX3_init 3 none && (true))) = true := by decide +kernel
theorem w292 : Cond.code ⟨"PalmHours$Tokens", "<init>", "(LPalmHours$Tape;)V"⟩ cX8_init 7 none ∈ lw_g := wdC_g (an1 btw1)
theorem w387 : Cond.code ⟨"PalmHours$Phrases", "<init>", "(LPalmHours$Tokens;LPalmHours$Formula;)V"⟩ cX3_init 3 none ∈ lw_g := wdC_g (an1 (an2 btw1))
theorem mdX3_init : MD yX3_init cX3_init 3 none 2 := ⟨w387, w130, by decide +kernel, by decide⟩
theorem mdX8_init : MD yX8_init cX8_init 7 none 1 := ⟨w292, w125, by decide +kernel, by decide⟩
theorem btw2 : (okW 293 (Cond.methodLink "PalmHours$Tokens" 3 objectInit) && (true)) = true := by decide +kernel
theorem xw293 : Cond.methodLink "PalmHours$Tokens" 3 objectInit ∈ lw_g := okW_g (an1 btw2)
theorem fu_10793230_5 : fX8_fillUp 10 10793230 5 M00 = some (291417210, M00) := rfl
theorem fu_12328316_5 : fX8_fillUp 10 12328316 5 M00 = some (332864532, M00) := rfl
theorem fu_6411385_5 : fX8_fillUp 10 6411385 5 M00 = some (173107395, M00) := rfl
theorem fu_51382989_6 : fX8_fillUp 10 51382989 6 M00 = some (51382989, M00) := rfl
theorem fu_365260_4 : fX8_fillUp 10 365260 4 M00 = some (266274540, M00) := rfl
theorem fu_555_2 : fX8_fillUp 10 555 2 M00 = some (294949755, M00) := rfl
theorem fu_10495135_5 : fX8_fillUp 10 10495135 5 M00 = some (283368645, M00) := rfl
theorem fu_315994_4 : fX8_fillUp 10 315994 4 M00 = some (230359626, M00) := rfl
theorem fu_5878_3 : fX8_fillUp 10 5878 3 M00 = some (115696674, M00) := rfl
theorem fu_2427955_5 : fX8_fillUp 10 2427955 5 M00 = some (65554785, M00) := rfl
theorem fu_47_2 : fX8_fillUp 10 47 2 M00 = some (24977727, M00) := rfl
theorem fu_168984_4 : fX8_fillUp 10 168984 4 M00 = some (123189336, M00) := rfl
theorem fu_375400_4 : fX8_fillUp 10 375400 4 M00 = some (273666600, M00) := rfl
theorem fu_149099_4 : fX8_fillUp 10 149099 4 M00 = some (108693171, M00) := rfl
theorem fu_316189_4 : fX8_fillUp 10 316189 4 M00 = some (230501781, M00) := rfl
theorem fu_161437_4 : fX8_fillUp 10 161437 4 M00 = some (117687573, M00) := rfl
theorem fu_191610176_6 : fX8_fillUp 10 191610176 6 M00 = some (191610176, M00) := rfl
theorem fu_2925313_5 : fX8_fillUp 10 2925313 5 M00 = some (78983451, M00) := rfl
theorem fu_249_2 : fX8_fillUp 10 249 2 M00 = some (132328809, M00) := rfl
theorem fu_423_2 : fX8_fillUp 10 423 2 M00 = some (224799543, M00) := rfl
theorem fu_1111_3 : fX8_fillUp 10 1111 3 M00 = some (21867813, M00) := rfl
theorem fu_10631_3 : fX8_fillUp 10 10631 3 M00 = some (209249973, M00) := rfl
theorem fu_1065_3 : fX8_fillUp 10 1065 3 M00 = some (20962395, M00) := rfl
theorem fu_9734_3 : fX8_fillUp 10 9734 3 M00 = some (191594322, M00) := rfl
theorem fu_9528_3 : fX8_fillUp 10 9528 3 M00 = some (187539624, M00) := rfl
theorem btw3 : (okW 287 (Cond.methodLink "PalmHours$Reader" 3 objectInit) && (okW 288 (Cond.classLink "PalmHours$Reader" 9 "PalmHours$Tokens") && (okW 289 (Cond.instantiable "PalmHours$Tokens" 9) && (true)))) = true := by decide +kernel
theorem xw287 : Cond.methodLink "PalmHours$Reader" 3 objectInit ∈ lw_g := okW_g (an1 btw3)
theorem xw288 : Cond.classLink "PalmHours$Reader" 9 "PalmHours$Tokens" ∈ lw_g := okW_g (an1 (an2 btw3))
theorem xw289 : Cond.instantiable "PalmHours$Tokens" 9 ∈ lw_g := okW_g (an1 (an2 (an2 btw3)))
theorem nlX4_9 : NL RX4 9 8 RX8 TX8 9 tyX8 := ⟨rfl, inX8, xw288, xw289, w125, tyX8_ok⟩
theorem fsX8 : ∀ j, j < 9 → defaultValue (tyX8 j) = vp_V [.null, .null, .int 0, .int 0, .int 0, .int 0, .int 0, .int 0, .int 0] j := fun j hj => by rcases (show j = 0 ∨ j = 1 ∨ j = 2 ∨ j = 3 ∨ j = 4 ∨ j = 5 ∨ j = 6 ∨ j = 7 ∨ j = 8 by omega) with rfl | rfl | rfl | rfl | rfl | rfl | rfl | rfl | rfl <;> rfl
theorem btw4 : (okW 383 (Cond.classLink "PalmHours$Reader" 20 "PalmHours$Phrases") && (okW 384 (Cond.instantiable "PalmHours$Phrases" 3) && (true))) = true := by decide +kernel
theorem xw383 : Cond.classLink "PalmHours$Reader" 20 "PalmHours$Phrases" ∈ lw_g := okW_g (an1 btw4)
theorem xw384 : Cond.instantiable "PalmHours$Phrases" 3 ∈ lw_g := okW_g (an1 (an2 btw4))
theorem nlX4_20 : NL RX4 20 3 RX3 TX3 3 tyX3 := ⟨rfl, inX3, xw383, xw384, w130, tyX3_ok⟩
theorem fsX3 : ∀ j, j < 3 → defaultValue (tyX3 j) = vp_V [.null, .null, .int 0] j := fun j hj => by rcases (show j = 0 ∨ j = 1 ∨ j = 2 by omega) with rfl | rfl | rfl <;> rfl
section
variable {l : Launch} {D : va_G} {cy : Nat → ClassId} {B0 ka va : Nat}
theorem ccX8_init (h0 p1 : Nat) : CC l D cy B0 ka va yX8_init cX8_init 7 ({ frames := 4, cells := 1, slots := 25, locals := 110 }) [.ref h0, .ref p1] [(h0, .inr (8, [.null, .null, .int 0, .int 0, .int 0, .int 0, .int 0, .int 0, .int 0]))] (fun u => [(h0, .inr (8, [.ref p1, .ref (u 0), .int 259, .int 0, .int 0, .int 0, .int 0, .int 0, .int (-1)])), ((u 0), .inl (cy 0, 25, .inl (upd (upd (upd (upd (upd (upd (upd (upd (upd (upd (upd (upd (upd (upd (upd (upd (upd (upd (upd (upd (upd (upd (upd (upd (upd (fun _ => 0) 0 291417210) 1 332864532) 2 173107395) 3 51382989) 4 266274540) 5 294949755) 6 283368645) 7 230359626) 8 115696674) 9 65554785) 10 24977727) 11 123189336) 12 273666600) 13 108693171) 14 230501781) 15 117687573) 16 191610176) 17 78983451) 18 132328809) 19 224799543) 20 21867813) 21 209249973) 22 20962395) 23 191594322) 24 187539624)))]) 1 25 :=
  CC.mk (by decide) rfl (Nat.le_of_ble_eq_true rfl) (fun hO => by
    refine k_aload_n hO dX8_init_0 0 rfl rfl ?_
    refine k_obj hO xw293 xw145 xw146 (Nat.le_of_ble_eq_true rfl) (Nat.le_of_ble_eq_true rfl) dX8_init_1 ?_
    refine k_aload_n hO dX8_init_4 0 rfl rfl ?_
    refine k_bipush hO dX8_init_5 ic_b_25 ?_
    refine k_newaI hO xw165 (by decide) (N := 25) (by decide) (by decide) (w' := fun q7 => [(h0, .inr (8, [.null, .null, .int 0, .int 0, .int 0, .int 0, .int 0, .int 0, .int 0])), (q7, .inl (cy 0, 25, .inl (fun _ => 0)))]) (fun _ => rfl) (Nat.le_of_ble_eq_true rfl) (Nat.le_of_ble_eq_true rfl) dX8_init_7 (fun q7 => ?_)
    refine k_putF hO flX8_11 0 rfl rfl rfl rfl rfl rfl (Nat.le_of_ble_eq_true rfl) (ws' := [(h0, .inr (8, [.null, .ref q7, .int 0, .int 0, .int 0, .int 0, .int 0, .int 0, .int 0])), (q7, .inl (cy 0, 25, .inl (fun _ => 0)))]) rfl dX8_init_9 ?_
    refine k_aload_n hO dX8_init_12 0 rfl rfl ?_
    refine k_sipush hO dX8_init_13 ic_s_259 ?_
    refine k_put hO flX8_15 0 rfl rfl rfl rfl rfl (Nat.le_of_ble_eq_true rfl) (ws' := [(h0, .inr (8, [.null, .ref q7, .int 259, .int 0, .int 0, .int 0, .int 0, .int 0, .int 0])), (q7, .inl (cy 0, 25, .inl (fun _ => 0)))]) rfl dX8_init_16 ?_
    refine k_aload_n hO dX8_init_19 0 rfl rfl ?_
    refine k_iconst hO dX8_init_20 ic_i_0 ?_
    refine k_put hO flX8_19 0 rfl rfl rfl rfl rfl (Nat.le_of_ble_eq_true rfl) (ws' := [(h0, .inr (8, [.null, .ref q7, .int 259, .int 0, .int 0, .int 0, .int 0, .int 0, .int 0])), (q7, .inl (cy 0, 25, .inl (fun _ => 0)))]) rfl dX8_init_21 ?_
    refine k_aload_n hO dX8_init_24 0 rfl rfl ?_
    refine k_iconst hO dX8_init_25 ic_i_0 ?_
    refine k_put hO flX8_22 0 rfl rfl rfl rfl rfl (Nat.le_of_ble_eq_true rfl) (ws' := [(h0, .inr (8, [.null, .ref q7, .int 259, .int 0, .int 0, .int 0, .int 0, .int 0, .int 0])), (q7, .inl (cy 0, 25, .inl (fun _ => 0)))]) rfl dX8_init_26 ?_
    refine k_aload_n hO dX8_init_29 0 rfl rfl ?_
    refine k_iconst hO dX8_init_30 ic_i_0 ?_
    refine k_put hO flX8_25 0 rfl rfl rfl rfl rfl (Nat.le_of_ble_eq_true rfl) (ws' := [(h0, .inr (8, [.null, .ref q7, .int 259, .int 0, .int 0, .int 0, .int 0, .int 0, .int 0])), (q7, .inl (cy 0, 25, .inl (fun _ => 0)))]) rfl dX8_init_31 ?_
    refine k_aload_n hO dX8_init_34 0 rfl rfl ?_
    refine k_iconst hO dX8_init_35 ic_i_0 ?_
    refine k_put hO flX8_28 0 rfl rfl rfl rfl rfl (Nat.le_of_ble_eq_true rfl) (ws' := [(h0, .inr (8, [.null, .ref q7, .int 259, .int 0, .int 0, .int 0, .int 0, .int 0, .int 0])), (q7, .inl (cy 0, 25, .inl (fun _ => 0)))]) rfl dX8_init_36 ?_
    refine k_aload_n hO dX8_init_39 0 rfl rfl ?_
    refine k_iconst hO dX8_init_40 ic_i_0 ?_
    refine k_put hO flX8_31 0 rfl rfl rfl rfl rfl (Nat.le_of_ble_eq_true rfl) (ws' := [(h0, .inr (8, [.null, .ref q7, .int 259, .int 0, .int 0, .int 0, .int 0, .int 0, .int 0])), (q7, .inl (cy 0, 25, .inl (fun _ => 0)))]) rfl dX8_init_41 ?_
    refine k_aload_n hO dX8_init_44 0 rfl rfl ?_
    refine k_iconst hO dX8_init_45 ic_i_m1 ?_
    refine k_put hO flX8_34 0 rfl rfl rfl rfl rfl (Nat.le_of_ble_eq_true rfl) (ws' := [(h0, .inr (8, [.null, .ref q7, .int 259, .int 0, .int 0, .int 0, .int 0, .int 0, .int (-1)])), (q7, .inl (cy 0, 25, .inl (fun _ => 0)))]) rfl dX8_init_46 ?_
    refine k_aload_n hO dX8_init_49 0 rfl rfl ?_
    refine k_aload_n hO dX8_init_50 1 rfl rfl ?_
    refine k_putF hO flX8_37 0 rfl rfl rfl rfl rfl rfl (Nat.le_of_ble_eq_true rfl) (ws' := [(h0, .inr (8, [.ref p1, .ref q7, .int 259, .int 0, .int 0, .int 0, .int 0, .int 0, .int (-1)])), (q7, .inl (cy 0, 25, .inl (fun _ => 0)))]) rfl dX8_init_51 ?_
    refine k_iconst hO dX8_init_54 ic_i_0 ?_
    refine k_istore_n hO dX8_init_55 rfl (by decide) (lv' := [(2, .int 0), (0, .ref h0), (1, .ref p1)]) rfl ?_
    refine k_iconst hO dX8_init_56 ic_i_0 ?_
    refine k_istore_n hO dX8_init_57 rfl (by decide) (lv' := [(3, .int 0), (2, .int 0), (0, .ref h0), (1, .ref p1)]) rfl ?_
    refine k_iconst hO dX8_init_58 ic_i_0 ?_
    refine k_istore hO dX8_init_59 (by decide) (lv' := [(4, .int 0), (3, .int 0), (2, .int 0), (0, .ref h0), (1, .ref p1)]) rfl ?_
    refine k_iconst hO dX8_init_61 ic_i_0 ?_
    refine k_istore hO dX8_init_62 (by decide) (lv' := [(5, .int 0), (4, .int 0), (3, .int 0), (2, .int 0), (0, .ref h0), (1, .ref p1)]) rfl ?_
    refine k_iload hO dX8_init_64 0 rfl ?_
    refine k_ldcS hO rfl dX8_init_66 ?_
    refine k_strlen hO w295 (Nat.le_of_ble_eq_true rfl) (Nat.le_of_ble_eq_true rfl) (Nat.le_of_ble_eq_true rfl) (Nat.le_of_ble_eq_true rfl) (Nat.le_of_ble_eq_true rfl) dX8_init_68 ?_
    refine k_icmp_geF (pc := 71) hO dX8_init_71 (tgt := 141) (by decide) (by decide) ?_
    refine k_ldcS hO rfl dX8_init_74 ?_
    refine k_iload hO dX8_init_76 0 rfl ?_
    refine k_charAt hO (k := 0) (v := 116) (Nat.le_of_ble_eq_true rfl) rfl rfl w305 (Nat.le_of_ble_eq_true rfl) (Nat.le_of_ble_eq_true rfl) (Nat.le_of_ble_eq_true rfl) (Nat.le_of_ble_eq_true rfl) (Nat.le_of_ble_eq_true rfl) dX8_init_78 ?_
    refine k_istore hO dX8_init_81 (by decide) (lv' := [(6, .int 116), (5, .int 0), (4, .int 0), (3, .int 0), (2, .int 0), (0, .ref h0), (1, .ref p1)]) rfl ?_
    refine k_iload hO dX8_init_83 0 rfl ?_
    refine k_bipush hO dX8_init_85 ic_b_32 ?_
    refine k_icmp_eqF (pc := 87) hO dX8_init_87 (tgt := 109) (by decide) (by decide) ?_
    refine k_bipush hO dX8_init_90 ic_b_27 ?_
    refine k_iload_n hO dX8_init_92 3 rfl rfl ?_
    refine k_imul hO dX8_init_93 (v := 0) (by decide) ?_
    refine k_iload hO dX8_init_94 0 rfl ?_
    refine k_iadd hO dX8_init_96 (v := 116) (by decide) ?_
    refine k_bipush hO dX8_init_97 ic_b_97 ?_
    refine k_isub hO dX8_init_99 (v := 19) (by decide) ?_
    refine k_iconst hO dX8_init_100 ic_i_1 ?_
    refine k_iadd hO dX8_init_101 (v := 20) (by decide) ?_
    refine k_istore_n hO dX8_init_102 rfl (by decide) (lv' := [(3, .int 20), (6, .int 116), (5, .int 0), (4, .int 0), (2, .int 0), (0, .ref h0), (1, .ref p1)]) rfl ?_
    refine k_iinc hO dX8_init_103 3 rfl (v := 1) (by decide) (by decide) (lv' := [(4, .int 1), (3, .int 20), (6, .int 116), (5, .int 0), (2, .int 0), (0, .ref h0), (1, .ref p1)]) rfl ?_
    refine k_goto (pc := 106) hO dX8_init_106 (tgt := 135) (by decide) ?_
    refine k_iinc hO dX8_init_135 3 rfl (v := 1) (by decide) (by decide) (lv' := [(5, .int 1), (4, .int 1), (3, .int 20), (6, .int 116), (2, .int 0), (0, .ref h0), (1, .ref p1)]) rfl ?_
    refine k_goto (pc := 138) hO dX8_init_138 (tgt := 64) (by decide) ?_
    refine k_iload hO dX8_init_64 0 rfl ?_
    refine k_ldcS hO rfl dX8_init_66 ?_
    refine k_strlen hO w295 (Nat.le_of_ble_eq_true rfl) (Nat.le_of_ble_eq_true rfl) (Nat.le_of_ble_eq_true rfl) (Nat.le_of_ble_eq_true rfl) (Nat.le_of_ble_eq_true rfl) dX8_init_68 ?_
    refine k_icmp_geF (pc := 71) hO dX8_init_71 (tgt := 141) (by decide) (by decide) ?_
    refine k_ldcS hO rfl dX8_init_74 ?_
    refine k_iload hO dX8_init_76 0 rfl ?_
    refine k_charAt hO (k := 1) (v := 104) (Nat.le_of_ble_eq_true rfl) rfl rfl w305 (Nat.le_of_ble_eq_true rfl) (Nat.le_of_ble_eq_true rfl) (Nat.le_of_ble_eq_true rfl) (Nat.le_of_ble_eq_true rfl) (Nat.le_of_ble_eq_true rfl) dX8_init_78 ?_
    refine k_istore hO dX8_init_81 (by decide) (lv' := [(6, .int 104), (5, .int 1), (4, .int 1), (3, .int 20), (2, .int 0), (0, .ref h0), (1, .ref p1)]) rfl ?_
    refine k_iload hO dX8_init_83 0 rfl ?_
    refine k_bipush hO dX8_init_85 ic_b_32 ?_
    refine k_icmp_eqF (pc := 87) hO dX8_init_87 (tgt := 109) (by decide) (by decide) ?_
    refine k_bipush hO dX8_init_90 ic_b_27 ?_
    refine k_iload_n hO dX8_init_92 3 rfl rfl ?_
    refine k_imul hO dX8_init_93 (v := 540) (by decide) ?_
    refine k_iload hO dX8_init_94 0 rfl ?_
    refine k_iadd hO dX8_init_96 (v := 644) (by decide) ?_
    refine k_bipush hO dX8_init_97 ic_b_97 ?_
    refine k_isub hO dX8_init_99 (v := 547) (by decide) ?_
    refine k_iconst hO dX8_init_100 ic_i_1 ?_
    refine k_iadd hO dX8_init_101 (v := 548) (by decide) ?_
    refine k_istore_n hO dX8_init_102 rfl (by decide) (lv' := [(3, .int 548), (6, .int 104), (5, .int 1), (4, .int 1), (2, .int 0), (0, .ref h0), (1, .ref p1)]) rfl ?_
    refine k_iinc hO dX8_init_103 3 rfl (v := 2) (by decide) (by decide) (lv' := [(4, .int 2), (3, .int 548), (6, .int 104), (5, .int 1), (2, .int 0), (0, .ref h0), (1, .ref p1)]) rfl ?_
    refine k_goto (pc := 106) hO dX8_init_106 (tgt := 135) (by decide) ?_
    refine k_iinc hO dX8_init_135 3 rfl (v := 2) (by decide) (by decide) (lv' := [(5, .int 2), (4, .int 2), (3, .int 548), (6, .int 104), (2, .int 0), (0, .ref h0), (1, .ref p1)]) rfl ?_
    refine k_goto (pc := 138) hO dX8_init_138 (tgt := 64) (by decide) ?_
    refine k_iload hO dX8_init_64 0 rfl ?_
    refine k_ldcS hO rfl dX8_init_66 ?_
    refine k_strlen hO w295 (Nat.le_of_ble_eq_true rfl) (Nat.le_of_ble_eq_true rfl) (Nat.le_of_ble_eq_true rfl) (Nat.le_of_ble_eq_true rfl) (Nat.le_of_ble_eq_true rfl) dX8_init_68 ?_
    refine k_icmp_geF (pc := 71) hO dX8_init_71 (tgt := 141) (by decide) (by decide) ?_
    refine k_ldcS hO rfl dX8_init_74 ?_
    refine k_iload hO dX8_init_76 0 rfl ?_
    refine k_charAt hO (k := 2) (v := 105) (Nat.le_of_ble_eq_true rfl) rfl rfl w305 (Nat.le_of_ble_eq_true rfl) (Nat.le_of_ble_eq_true rfl) (Nat.le_of_ble_eq_true rfl) (Nat.le_of_ble_eq_true rfl) (Nat.le_of_ble_eq_true rfl) dX8_init_78 ?_
    refine k_istore hO dX8_init_81 (by decide) (lv' := [(6, .int 105), (5, .int 2), (4, .int 2), (3, .int 548), (2, .int 0), (0, .ref h0), (1, .ref p1)]) rfl ?_
    refine k_iload hO dX8_init_83 0 rfl ?_
    refine k_bipush hO dX8_init_85 ic_b_32 ?_
    refine k_icmp_eqF (pc := 87) hO dX8_init_87 (tgt := 109) (by decide) (by decide) ?_
    refine k_bipush hO dX8_init_90 ic_b_27 ?_
    refine k_iload_n hO dX8_init_92 3 rfl rfl ?_
    refine k_imul hO dX8_init_93 (v := 14796) (by decide) ?_
    refine k_iload hO dX8_init_94 0 rfl ?_
    refine k_iadd hO dX8_init_96 (v := 14901) (by decide) ?_
    refine k_bipush hO dX8_init_97 ic_b_97 ?_
    refine k_isub hO dX8_init_99 (v := 14804) (by decide) ?_
    refine k_iconst hO dX8_init_100 ic_i_1 ?_
    refine k_iadd hO dX8_init_101 (v := 14805) (by decide) ?_
    refine k_istore_n hO dX8_init_102 rfl (by decide) (lv' := [(3, .int 14805), (6, .int 105), (5, .int 2), (4, .int 2), (2, .int 0), (0, .ref h0), (1, .ref p1)]) rfl ?_
    refine k_iinc hO dX8_init_103 3 rfl (v := 3) (by decide) (by decide) (lv' := [(4, .int 3), (3, .int 14805), (6, .int 105), (5, .int 2), (2, .int 0), (0, .ref h0), (1, .ref p1)]) rfl ?_
    refine k_goto (pc := 106) hO dX8_init_106 (tgt := 135) (by decide) ?_
    refine k_iinc hO dX8_init_135 3 rfl (v := 3) (by decide) (by decide) (lv' := [(5, .int 3), (4, .int 3), (3, .int 14805), (6, .int 105), (2, .int 0), (0, .ref h0), (1, .ref p1)]) rfl ?_
    refine k_goto (pc := 138) hO dX8_init_138 (tgt := 64) (by decide) ?_
    refine k_iload hO dX8_init_64 0 rfl ?_
    refine k_ldcS hO rfl dX8_init_66 ?_
    refine k_strlen hO w295 (Nat.le_of_ble_eq_true rfl) (Nat.le_of_ble_eq_true rfl) (Nat.le_of_ble_eq_true rfl) (Nat.le_of_ble_eq_true rfl) (Nat.le_of_ble_eq_true rfl) dX8_init_68 ?_
    refine k_icmp_geF (pc := 71) hO dX8_init_71 (tgt := 141) (by decide) (by decide) ?_
    refine k_ldcS hO rfl dX8_init_74 ?_
    refine k_iload hO dX8_init_76 0 rfl ?_
    refine k_charAt hO (k := 3) (v := 110) (Nat.le_of_ble_eq_true rfl) rfl rfl w305 (Nat.le_of_ble_eq_true rfl) (Nat.le_of_ble_eq_true rfl) (Nat.le_of_ble_eq_true rfl) (Nat.le_of_ble_eq_true rfl) (Nat.le_of_ble_eq_true rfl) dX8_init_78 ?_
    refine k_istore hO dX8_init_81 (by decide) (lv' := [(6, .int 110), (5, .int 3), (4, .int 3), (3, .int 14805), (2, .int 0), (0, .ref h0), (1, .ref p1)]) rfl ?_
    refine k_iload hO dX8_init_83 0 rfl ?_
    refine k_bipush hO dX8_init_85 ic_b_32 ?_
    refine k_icmp_eqF (pc := 87) hO dX8_init_87 (tgt := 109) (by decide) (by decide) ?_
    refine k_bipush hO dX8_init_90 ic_b_27 ?_
    refine k_iload_n hO dX8_init_92 3 rfl rfl ?_
    refine k_imul hO dX8_init_93 (v := 399735) (by decide) ?_
    refine k_iload hO dX8_init_94 0 rfl ?_
    refine k_iadd hO dX8_init_96 (v := 399845) (by decide) ?_
    refine k_bipush hO dX8_init_97 ic_b_97 ?_
    refine k_isub hO dX8_init_99 (v := 399748) (by decide) ?_
    refine k_iconst hO dX8_init_100 ic_i_1 ?_
    refine k_iadd hO dX8_init_101 (v := 399749) (by decide) ?_
    refine k_istore_n hO dX8_init_102 rfl (by decide) (lv' := [(3, .int 399749), (6, .int 110), (5, .int 3), (4, .int 3), (2, .int 0), (0, .ref h0), (1, .ref p1)]) rfl ?_
    refine k_iinc hO dX8_init_103 3 rfl (v := 4) (by decide) (by decide) (lv' := [(4, .int 4), (3, .int 399749), (6, .int 110), (5, .int 3), (2, .int 0), (0, .ref h0), (1, .ref p1)]) rfl ?_
    refine k_goto (pc := 106) hO dX8_init_106 (tgt := 135) (by decide) ?_
    refine k_iinc hO dX8_init_135 3 rfl (v := 4) (by decide) (by decide) (lv' := [(5, .int 4), (4, .int 4), (3, .int 399749), (6, .int 110), (2, .int 0), (0, .ref h0), (1, .ref p1)]) rfl ?_
    refine k_goto (pc := 138) hO dX8_init_138 (tgt := 64) (by decide) ?_
    refine k_iload hO dX8_init_64 0 rfl ?_
    refine k_ldcS hO rfl dX8_init_66 ?_
    refine k_strlen hO w295 (Nat.le_of_ble_eq_true rfl) (Nat.le_of_ble_eq_true rfl) (Nat.le_of_ble_eq_true rfl) (Nat.le_of_ble_eq_true rfl) (Nat.le_of_ble_eq_true rfl) dX8_init_68 ?_
    refine k_icmp_geF (pc := 71) hO dX8_init_71 (tgt := 141) (by decide) (by decide) ?_
    refine k_ldcS hO rfl dX8_init_74 ?_
    refine k_iload hO dX8_init_76 0 rfl ?_
    refine k_charAt hO (k := 4) (v := 103) (Nat.le_of_ble_eq_true rfl) rfl rfl w305 (Nat.le_of_ble_eq_true rfl) (Nat.le_of_ble_eq_true rfl) (Nat.le_of_ble_eq_true rfl) (Nat.le_of_ble_eq_true rfl) (Nat.le_of_ble_eq_true rfl) dX8_init_78 ?_
    refine k_istore hO dX8_init_81 (by decide) (lv' := [(6, .int 103), (5, .int 4), (4, .int 4), (3, .int 399749), (2, .int 0), (0, .ref h0), (1, .ref p1)]) rfl ?_
    refine k_iload hO dX8_init_83 0 rfl ?_
    refine k_bipush hO dX8_init_85 ic_b_32 ?_
    refine k_icmp_eqF (pc := 87) hO dX8_init_87 (tgt := 109) (by decide) (by decide) ?_
    refine k_bipush hO dX8_init_90 ic_b_27 ?_
    refine k_iload_n hO dX8_init_92 3 rfl rfl ?_
    refine k_imul hO dX8_init_93 (v := 10793223) (by decide) ?_
    refine k_iload hO dX8_init_94 0 rfl ?_
    refine k_iadd hO dX8_init_96 (v := 10793326) (by decide) ?_
    refine k_bipush hO dX8_init_97 ic_b_97 ?_
    refine k_isub hO dX8_init_99 (v := 10793229) (by decide) ?_
    refine k_iconst hO dX8_init_100 ic_i_1 ?_
    refine k_iadd hO dX8_init_101 (v := 10793230) (by decide) ?_
    refine k_istore_n hO dX8_init_102 rfl (by decide) (lv' := [(3, .int 10793230), (6, .int 103), (5, .int 4), (4, .int 4), (2, .int 0), (0, .ref h0), (1, .ref p1)]) rfl ?_
    refine k_iinc hO dX8_init_103 3 rfl (v := 5) (by decide) (by decide) (lv' := [(4, .int 5), (3, .int 10793230), (6, .int 103), (5, .int 4), (2, .int 0), (0, .ref h0), (1, .ref p1)]) rfl ?_
    refine k_goto (pc := 106) hO dX8_init_106 (tgt := 135) (by decide) ?_
    refine k_iinc hO dX8_init_135 3 rfl (v := 5) (by decide) (by decide) (lv' := [(5, .int 5), (4, .int 5), (3, .int 10793230), (6, .int 103), (2, .int 0), (0, .ref h0), (1, .ref p1)]) rfl ?_
    refine k_goto (pc := 138) hO dX8_init_138 (tgt := 64) (by decide) ?_
    refine k_iload hO dX8_init_64 0 rfl ?_
    refine k_ldcS hO rfl dX8_init_66 ?_
    refine k_strlen hO w295 (Nat.le_of_ble_eq_true rfl) (Nat.le_of_ble_eq_true rfl) (Nat.le_of_ble_eq_true rfl) (Nat.le_of_ble_eq_true rfl) (Nat.le_of_ble_eq_true rfl) dX8_init_68 ?_
    refine k_icmp_geF (pc := 71) hO dX8_init_71 (tgt := 141) (by decide) (by decide) ?_
    refine k_ldcS hO rfl dX8_init_74 ?_
    refine k_iload hO dX8_init_76 0 rfl ?_
    refine k_charAt hO (k := 5) (v := 32) (Nat.le_of_ble_eq_true rfl) rfl rfl w305 (Nat.le_of_ble_eq_true rfl) (Nat.le_of_ble_eq_true rfl) (Nat.le_of_ble_eq_true rfl) (Nat.le_of_ble_eq_true rfl) (Nat.le_of_ble_eq_true rfl) dX8_init_78 ?_
    refine k_istore hO dX8_init_81 (by decide) (lv' := [(6, .int 32), (5, .int 5), (4, .int 5), (3, .int 10793230), (2, .int 0), (0, .ref h0), (1, .ref p1)]) rfl ?_
    refine k_iload hO dX8_init_83 0 rfl ?_
    refine k_bipush hO dX8_init_85 ic_b_32 ?_
    refine k_icmp_eqT (pc := 87) hO dX8_init_87 (tgt := 109) (by decide) (by decide) ?_
    refine k_iload_n hO dX8_init_109 4 rfl rfl ?_
    refine k_bipush hO dX8_init_110 ic_b_25 ?_
    refine k_icmp_geF (pc := 112) hO dX8_init_112 (tgt := 135) (by decide) (by decide) ?_
    refine k_aload_n hO dX8_init_115 5 rfl rfl ?_
    refine k_get hO flX8_11 0 rfl (v := .ref q7) rfl dX8_init_116 ?_
    refine k_iload_n hO dX8_init_119 4 rfl rfl ?_
    refine k_iload_n hO dX8_init_120 3 rfl rfl ?_
    refine k_iload hO dX8_init_121 2 rfl ?_
    refine k_fill hO fu_10793230_5 w343 (Nat.le_of_ble_eq_true rfl) (Nat.le_of_ble_eq_true rfl) (Nat.le_of_ble_eq_true rfl) (Nat.le_of_ble_eq_true rfl) (Nat.le_of_ble_eq_true rfl) dX8_init_123 ?_
    refine k_iast hO 1 rfl (by decide) (k := 0) (by decide) (ws' := [(h0, .inr (8, [.ref p1, .ref q7, .int 259, .int 0, .int 0, .int 0, .int 0, .int 0, .int (-1)])), (q7, .inl (cy 0, 25, .inl (upd (fun _ => 0) 0 291417210)))]) rfl dX8_init_126 ?_
    refine k_iinc hO dX8_init_127 4 rfl (v := 1) (by decide) (by decide) (lv' := [(2, .int 1), (6, .int 32), (5, .int 5), (4, .int 5), (3, .int 10793230), (0, .ref h0), (1, .ref p1)]) rfl ?_
    refine k_iconst hO dX8_init_130 ic_i_0 ?_
    refine k_istore_n hO dX8_init_131 rfl (by decide) (lv' := [(3, .int 0), (2, .int 1), (6, .int 32), (5, .int 5), (4, .int 5), (0, .ref h0), (1, .ref p1)]) rfl ?_
    refine k_iconst hO dX8_init_132 ic_i_0 ?_
    refine k_istore hO dX8_init_133 (by decide) (lv' := [(4, .int 0), (3, .int 0), (2, .int 1), (6, .int 32), (5, .int 5), (0, .ref h0), (1, .ref p1)]) rfl ?_
    refine k_iinc hO dX8_init_135 4 rfl (v := 6) (by decide) (by decide) (lv' := [(5, .int 6), (4, .int 0), (3, .int 0), (2, .int 1), (6, .int 32), (0, .ref h0), (1, .ref p1)]) rfl ?_
    refine k_goto (pc := 138) hO dX8_init_138 (tgt := 64) (by decide) ?_
    refine k_iload hO dX8_init_64 0 rfl ?_
    refine k_ldcS hO rfl dX8_init_66 ?_
    refine k_strlen hO w295 (Nat.le_of_ble_eq_true rfl) (Nat.le_of_ble_eq_true rfl) (Nat.le_of_ble_eq_true rfl) (Nat.le_of_ble_eq_true rfl) (Nat.le_of_ble_eq_true rfl) dX8_init_68 ?_
    refine k_icmp_geF (pc := 71) hO dX8_init_71 (tgt := 141) (by decide) (by decide) ?_
    refine k_ldcS hO rfl dX8_init_74 ?_
    refine k_iload hO dX8_init_76 0 rfl ?_
    refine k_charAt hO (k := 6) (v := 119) (Nat.le_of_ble_eq_true rfl) rfl rfl w305 (Nat.le_of_ble_eq_true rfl) (Nat.le_of_ble_eq_true rfl) (Nat.le_of_ble_eq_true rfl) (Nat.le_of_ble_eq_true rfl) (Nat.le_of_ble_eq_true rfl) dX8_init_78 ?_
    refine k_istore hO dX8_init_81 (by decide) (lv' := [(6, .int 119), (5, .int 6), (4, .int 0), (3, .int 0), (2, .int 1), (0, .ref h0), (1, .ref p1)]) rfl ?_
    refine k_iload hO dX8_init_83 0 rfl ?_
    refine k_bipush hO dX8_init_85 ic_b_32 ?_
    refine k_icmp_eqF (pc := 87) hO dX8_init_87 (tgt := 109) (by decide) (by decide) ?_
    refine k_bipush hO dX8_init_90 ic_b_27 ?_
    refine k_iload_n hO dX8_init_92 3 rfl rfl ?_
    refine k_imul hO dX8_init_93 (v := 0) (by decide) ?_
    refine k_iload hO dX8_init_94 0 rfl ?_
    refine k_iadd hO dX8_init_96 (v := 119) (by decide) ?_
    refine k_bipush hO dX8_init_97 ic_b_97 ?_
    refine k_isub hO dX8_init_99 (v := 22) (by decide) ?_
    refine k_iconst hO dX8_init_100 ic_i_1 ?_
    refine k_iadd hO dX8_init_101 (v := 23) (by decide) ?_
    refine k_istore_n hO dX8_init_102 rfl (by decide) (lv' := [(3, .int 23), (6, .int 119), (5, .int 6), (4, .int 0), (2, .int 1), (0, .ref h0), (1, .ref p1)]) rfl ?_
    refine k_iinc hO dX8_init_103 3 rfl (v := 1) (by decide) (by decide) (lv' := [(4, .int 1), (3, .int 23), (6, .int 119), (5, .int 6), (2, .int 1), (0, .ref h0), (1, .ref p1)]) rfl ?_
    refine k_goto (pc := 106) hO dX8_init_106 (tgt := 135) (by decide) ?_
    refine k_iinc hO dX8_init_135 3 rfl (v := 7) (by decide) (by decide) (lv' := [(5, .int 7), (4, .int 1), (3, .int 23), (6, .int 119), (2, .int 1), (0, .ref h0), (1, .ref p1)]) rfl ?_
    refine k_goto (pc := 138) hO dX8_init_138 (tgt := 64) (by decide) ?_
    refine k_iload hO dX8_init_64 0 rfl ?_
    refine k_ldcS hO rfl dX8_init_66 ?_
    refine k_strlen hO w295 (Nat.le_of_ble_eq_true rfl) (Nat.le_of_ble_eq_true rfl) (Nat.le_of_ble_eq_true rfl) (Nat.le_of_ble_eq_true rfl) (Nat.le_of_ble_eq_true rfl) dX8_init_68 ?_
    refine k_icmp_geF (pc := 71) hO dX8_init_71 (tgt := 141) (by decide) (by decide) ?_
    refine k_ldcS hO rfl dX8_init_74 ?_
    refine k_iload hO dX8_init_76 0 rfl ?_
    refine k_charAt hO (k := 7) (v := 101) (Nat.le_of_ble_eq_true rfl) rfl rfl w305 (Nat.le_of_ble_eq_true rfl) (Nat.le_of_ble_eq_true rfl) (Nat.le_of_ble_eq_true rfl) (Nat.le_of_ble_eq_true rfl) (Nat.le_of_ble_eq_true rfl) dX8_init_78 ?_
    refine k_istore hO dX8_init_81 (by decide) (lv' := [(6, .int 101), (5, .int 7), (4, .int 1), (3, .int 23), (2, .int 1), (0, .ref h0), (1, .ref p1)]) rfl ?_
    refine k_iload hO dX8_init_83 0 rfl ?_
    refine k_bipush hO dX8_init_85 ic_b_32 ?_
    refine k_icmp_eqF (pc := 87) hO dX8_init_87 (tgt := 109) (by decide) (by decide) ?_
    refine k_bipush hO dX8_init_90 ic_b_27 ?_
    refine k_iload_n hO dX8_init_92 3 rfl rfl ?_
    refine k_imul hO dX8_init_93 (v := 621) (by decide) ?_
    refine k_iload hO dX8_init_94 0 rfl ?_
    refine k_iadd hO dX8_init_96 (v := 722) (by decide) ?_
    refine k_bipush hO dX8_init_97 ic_b_97 ?_
    refine k_isub hO dX8_init_99 (v := 625) (by decide) ?_
    refine k_iconst hO dX8_init_100 ic_i_1 ?_
    refine k_iadd hO dX8_init_101 (v := 626) (by decide) ?_
    refine k_istore_n hO dX8_init_102 rfl (by decide) (lv' := [(3, .int 626), (6, .int 101), (5, .int 7), (4, .int 1), (2, .int 1), (0, .ref h0), (1, .ref p1)]) rfl ?_
    refine k_iinc hO dX8_init_103 3 rfl (v := 2) (by decide) (by decide) (lv' := [(4, .int 2), (3, .int 626), (6, .int 101), (5, .int 7), (2, .int 1), (0, .ref h0), (1, .ref p1)]) rfl ?_
    refine k_goto (pc := 106) hO dX8_init_106 (tgt := 135) (by decide) ?_
    refine k_iinc hO dX8_init_135 3 rfl (v := 8) (by decide) (by decide) (lv' := [(5, .int 8), (4, .int 2), (3, .int 626), (6, .int 101), (2, .int 1), (0, .ref h0), (1, .ref p1)]) rfl ?_
    refine k_goto (pc := 138) hO dX8_init_138 (tgt := 64) (by decide) ?_
    refine k_iload hO dX8_init_64 0 rfl ?_
    refine k_ldcS hO rfl dX8_init_66 ?_
    refine k_strlen hO w295 (Nat.le_of_ble_eq_true rfl) (Nat.le_of_ble_eq_true rfl) (Nat.le_of_ble_eq_true rfl) (Nat.le_of_ble_eq_true rfl) (Nat.le_of_ble_eq_true rfl) dX8_init_68 ?_
    refine k_icmp_geF (pc := 71) hO dX8_init_71 (tgt := 141) (by decide) (by decide) ?_
    refine k_ldcS hO rfl dX8_init_74 ?_
    refine k_iload hO dX8_init_76 0 rfl ?_
    refine k_charAt hO (k := 8) (v := 105) (Nat.le_of_ble_eq_true rfl) rfl rfl w305 (Nat.le_of_ble_eq_true rfl) (Nat.le_of_ble_eq_true rfl) (Nat.le_of_ble_eq_true rfl) (Nat.le_of_ble_eq_true rfl) (Nat.le_of_ble_eq_true rfl) dX8_init_78 ?_
    refine k_istore hO dX8_init_81 (by decide) (lv' := [(6, .int 105), (5, .int 8), (4, .int 2), (3, .int 626), (2, .int 1), (0, .ref h0), (1, .ref p1)]) rfl ?_
    refine k_iload hO dX8_init_83 0 rfl ?_
    refine k_bipush hO dX8_init_85 ic_b_32 ?_
    refine k_icmp_eqF (pc := 87) hO dX8_init_87 (tgt := 109) (by decide) (by decide) ?_
    refine k_bipush hO dX8_init_90 ic_b_27 ?_
    refine k_iload_n hO dX8_init_92 3 rfl rfl ?_
    refine k_imul hO dX8_init_93 (v := 16902) (by decide) ?_
    refine k_iload hO dX8_init_94 0 rfl ?_
    refine k_iadd hO dX8_init_96 (v := 17007) (by decide) ?_
    refine k_bipush hO dX8_init_97 ic_b_97 ?_
    refine k_isub hO dX8_init_99 (v := 16910) (by decide) ?_
    refine k_iconst hO dX8_init_100 ic_i_1 ?_
    refine k_iadd hO dX8_init_101 (v := 16911) (by decide) ?_
    refine k_istore_n hO dX8_init_102 rfl (by decide) (lv' := [(3, .int 16911), (6, .int 105), (5, .int 8), (4, .int 2), (2, .int 1), (0, .ref h0), (1, .ref p1)]) rfl ?_
    refine k_iinc hO dX8_init_103 3 rfl (v := 3) (by decide) (by decide) (lv' := [(4, .int 3), (3, .int 16911), (6, .int 105), (5, .int 8), (2, .int 1), (0, .ref h0), (1, .ref p1)]) rfl ?_
    refine k_goto (pc := 106) hO dX8_init_106 (tgt := 135) (by decide) ?_
    refine k_iinc hO dX8_init_135 3 rfl (v := 9) (by decide) (by decide) (lv' := [(5, .int 9), (4, .int 3), (3, .int 16911), (6, .int 105), (2, .int 1), (0, .ref h0), (1, .ref p1)]) rfl ?_
    refine k_goto (pc := 138) hO dX8_init_138 (tgt := 64) (by decide) ?_
    refine k_iload hO dX8_init_64 0 rfl ?_
    refine k_ldcS hO rfl dX8_init_66 ?_
    refine k_strlen hO w295 (Nat.le_of_ble_eq_true rfl) (Nat.le_of_ble_eq_true rfl) (Nat.le_of_ble_eq_true rfl) (Nat.le_of_ble_eq_true rfl) (Nat.le_of_ble_eq_true rfl) dX8_init_68 ?_
    refine k_icmp_geF (pc := 71) hO dX8_init_71 (tgt := 141) (by decide) (by decide) ?_
    refine k_ldcS hO rfl dX8_init_74 ?_
    refine k_iload hO dX8_init_76 0 rfl ?_
    refine k_charAt hO (k := 9) (v := 103) (Nat.le_of_ble_eq_true rfl) rfl rfl w305 (Nat.le_of_ble_eq_true rfl) (Nat.le_of_ble_eq_true rfl) (Nat.le_of_ble_eq_true rfl) (Nat.le_of_ble_eq_true rfl) (Nat.le_of_ble_eq_true rfl) dX8_init_78 ?_
    refine k_istore hO dX8_init_81 (by decide) (lv' := [(6, .int 103), (5, .int 9), (4, .int 3), (3, .int 16911), (2, .int 1), (0, .ref h0), (1, .ref p1)]) rfl ?_
    refine k_iload hO dX8_init_83 0 rfl ?_
    refine k_bipush hO dX8_init_85 ic_b_32 ?_
    refine k_icmp_eqF (pc := 87) hO dX8_init_87 (tgt := 109) (by decide) (by decide) ?_
    refine k_bipush hO dX8_init_90 ic_b_27 ?_
    refine k_iload_n hO dX8_init_92 3 rfl rfl ?_
    refine k_imul hO dX8_init_93 (v := 456597) (by decide) ?_
    refine k_iload hO dX8_init_94 0 rfl ?_
    refine k_iadd hO dX8_init_96 (v := 456700) (by decide) ?_
    refine k_bipush hO dX8_init_97 ic_b_97 ?_
    refine k_isub hO dX8_init_99 (v := 456603) (by decide) ?_
    refine k_iconst hO dX8_init_100 ic_i_1 ?_
    refine k_iadd hO dX8_init_101 (v := 456604) (by decide) ?_
    refine k_istore_n hO dX8_init_102 rfl (by decide) (lv' := [(3, .int 456604), (6, .int 103), (5, .int 9), (4, .int 3), (2, .int 1), (0, .ref h0), (1, .ref p1)]) rfl ?_
    refine k_iinc hO dX8_init_103 3 rfl (v := 4) (by decide) (by decide) (lv' := [(4, .int 4), (3, .int 456604), (6, .int 103), (5, .int 9), (2, .int 1), (0, .ref h0), (1, .ref p1)]) rfl ?_
    refine k_goto (pc := 106) hO dX8_init_106 (tgt := 135) (by decide) ?_
    refine k_iinc hO dX8_init_135 3 rfl (v := 10) (by decide) (by decide) (lv' := [(5, .int 10), (4, .int 4), (3, .int 456604), (6, .int 103), (2, .int 1), (0, .ref h0), (1, .ref p1)]) rfl ?_
    refine k_goto (pc := 138) hO dX8_init_138 (tgt := 64) (by decide) ?_
    refine k_iload hO dX8_init_64 0 rfl ?_
    refine k_ldcS hO rfl dX8_init_66 ?_
    refine k_strlen hO w295 (Nat.le_of_ble_eq_true rfl) (Nat.le_of_ble_eq_true rfl) (Nat.le_of_ble_eq_true rfl) (Nat.le_of_ble_eq_true rfl) (Nat.le_of_ble_eq_true rfl) dX8_init_68 ?_
    refine k_icmp_geF (pc := 71) hO dX8_init_71 (tgt := 141) (by decide) (by decide) ?_
    refine k_ldcS hO rfl dX8_init_74 ?_
    refine k_iload hO dX8_init_76 0 rfl ?_
    refine k_charAt hO (k := 10) (v := 104) (Nat.le_of_ble_eq_true rfl) rfl rfl w305 (Nat.le_of_ble_eq_true rfl) (Nat.le_of_ble_eq_true rfl) (Nat.le_of_ble_eq_true rfl) (Nat.le_of_ble_eq_true rfl) (Nat.le_of_ble_eq_true rfl) dX8_init_78 ?_
    refine k_istore hO dX8_init_81 (by decide) (lv' := [(6, .int 104), (5, .int 10), (4, .int 4), (3, .int 456604), (2, .int 1), (0, .ref h0), (1, .ref p1)]) rfl ?_
    refine k_iload hO dX8_init_83 0 rfl ?_
    refine k_bipush hO dX8_init_85 ic_b_32 ?_
    refine k_icmp_eqF (pc := 87) hO dX8_init_87 (tgt := 109) (by decide) (by decide) ?_
    refine k_bipush hO dX8_init_90 ic_b_27 ?_
    refine k_iload_n hO dX8_init_92 3 rfl rfl ?_
    refine k_imul hO dX8_init_93 (v := 12328308) (by decide) ?_
    refine k_iload hO dX8_init_94 0 rfl ?_
    refine k_iadd hO dX8_init_96 (v := 12328412) (by decide) ?_
    refine k_bipush hO dX8_init_97 ic_b_97 ?_
    refine k_isub hO dX8_init_99 (v := 12328315) (by decide) ?_
    refine k_iconst hO dX8_init_100 ic_i_1 ?_
    refine k_iadd hO dX8_init_101 (v := 12328316) (by decide) ?_
    refine k_istore_n hO dX8_init_102 rfl (by decide) (lv' := [(3, .int 12328316), (6, .int 104), (5, .int 10), (4, .int 4), (2, .int 1), (0, .ref h0), (1, .ref p1)]) rfl ?_
    refine k_iinc hO dX8_init_103 3 rfl (v := 5) (by decide) (by decide) (lv' := [(4, .int 5), (3, .int 12328316), (6, .int 104), (5, .int 10), (2, .int 1), (0, .ref h0), (1, .ref p1)]) rfl ?_
    refine k_goto (pc := 106) hO dX8_init_106 (tgt := 135) (by decide) ?_
    refine k_iinc hO dX8_init_135 3 rfl (v := 11) (by decide) (by decide) (lv' := [(5, .int 11), (4, .int 5), (3, .int 12328316), (6, .int 104), (2, .int 1), (0, .ref h0), (1, .ref p1)]) rfl ?_
    refine k_goto (pc := 138) hO dX8_init_138 (tgt := 64) (by decide) ?_
    refine k_iload hO dX8_init_64 0 rfl ?_
    refine k_ldcS hO rfl dX8_init_66 ?_
    refine k_strlen hO w295 (Nat.le_of_ble_eq_true rfl) (Nat.le_of_ble_eq_true rfl) (Nat.le_of_ble_eq_true rfl) (Nat.le_of_ble_eq_true rfl) (Nat.le_of_ble_eq_true rfl) dX8_init_68 ?_
    refine k_icmp_geF (pc := 71) hO dX8_init_71 (tgt := 141) (by decide) (by decide) ?_
    refine k_ldcS hO rfl dX8_init_74 ?_
    refine k_iload hO dX8_init_76 0 rfl ?_
    refine k_charAt hO (k := 11) (v := 32) (Nat.le_of_ble_eq_true rfl) rfl rfl w305 (Nat.le_of_ble_eq_true rfl) (Nat.le_of_ble_eq_true rfl) (Nat.le_of_ble_eq_true rfl) (Nat.le_of_ble_eq_true rfl) (Nat.le_of_ble_eq_true rfl) dX8_init_78 ?_
    refine k_istore hO dX8_init_81 (by decide) (lv' := [(6, .int 32), (5, .int 11), (4, .int 5), (3, .int 12328316), (2, .int 1), (0, .ref h0), (1, .ref p1)]) rfl ?_
    refine k_iload hO dX8_init_83 0 rfl ?_
    refine k_bipush hO dX8_init_85 ic_b_32 ?_
    refine k_icmp_eqT (pc := 87) hO dX8_init_87 (tgt := 109) (by decide) (by decide) ?_
    refine k_iload_n hO dX8_init_109 4 rfl rfl ?_
    refine k_bipush hO dX8_init_110 ic_b_25 ?_
    refine k_icmp_geF (pc := 112) hO dX8_init_112 (tgt := 135) (by decide) (by decide) ?_
    refine k_aload_n hO dX8_init_115 5 rfl rfl ?_
    refine k_get hO flX8_11 0 rfl (v := .ref q7) rfl dX8_init_116 ?_
    refine k_iload_n hO dX8_init_119 4 rfl rfl ?_
    refine k_iload_n hO dX8_init_120 3 rfl rfl ?_
    refine k_iload hO dX8_init_121 2 rfl ?_
    refine k_fill hO fu_12328316_5 w343 (Nat.le_of_ble_eq_true rfl) (Nat.le_of_ble_eq_true rfl) (Nat.le_of_ble_eq_true rfl) (Nat.le_of_ble_eq_true rfl) (Nat.le_of_ble_eq_true rfl) dX8_init_123 ?_
    refine k_iast hO 1 rfl (by decide) (k := 1) (by decide) (ws' := [(h0, .inr (8, [.ref p1, .ref q7, .int 259, .int 0, .int 0, .int 0, .int 0, .int 0, .int (-1)])), (q7, .inl (cy 0, 25, .inl (upd (upd (fun _ => 0) 0 291417210) 1 332864532)))]) rfl dX8_init_126 ?_
    refine k_iinc hO dX8_init_127 4 rfl (v := 2) (by decide) (by decide) (lv' := [(2, .int 2), (6, .int 32), (5, .int 11), (4, .int 5), (3, .int 12328316), (0, .ref h0), (1, .ref p1)]) rfl ?_
    refine k_iconst hO dX8_init_130 ic_i_0 ?_
    refine k_istore_n hO dX8_init_131 rfl (by decide) (lv' := [(3, .int 0), (2, .int 2), (6, .int 32), (5, .int 11), (4, .int 5), (0, .ref h0), (1, .ref p1)]) rfl ?_
    refine k_iconst hO dX8_init_132 ic_i_0 ?_
    refine k_istore hO dX8_init_133 (by decide) (lv' := [(4, .int 0), (3, .int 0), (2, .int 2), (6, .int 32), (5, .int 11), (0, .ref h0), (1, .ref p1)]) rfl ?_
    refine k_iinc hO dX8_init_135 4 rfl (v := 12) (by decide) (by decide) (lv' := [(5, .int 12), (4, .int 0), (3, .int 0), (2, .int 2), (6, .int 32), (0, .ref h0), (1, .ref p1)]) rfl ?_
    refine k_goto (pc := 138) hO dX8_init_138 (tgt := 64) (by decide) ?_
    refine k_iload hO dX8_init_64 0 rfl ?_
    refine k_ldcS hO rfl dX8_init_66 ?_
    refine k_strlen hO w295 (Nat.le_of_ble_eq_true rfl) (Nat.le_of_ble_eq_true rfl) (Nat.le_of_ble_eq_true rfl) (Nat.le_of_ble_eq_true rfl) (Nat.le_of_ble_eq_true rfl) dX8_init_68 ?_
    refine k_icmp_geF (pc := 71) hO dX8_init_71 (tgt := 141) (by decide) (by decide) ?_
    refine k_ldcS hO rfl dX8_init_74 ?_
    refine k_iload hO dX8_init_76 0 rfl ?_
    refine k_charAt hO (k := 12) (v := 108) (Nat.le_of_ble_eq_true rfl) rfl rfl w305 (Nat.le_of_ble_eq_true rfl) (Nat.le_of_ble_eq_true rfl) (Nat.le_of_ble_eq_true rfl) (Nat.le_of_ble_eq_true rfl) (Nat.le_of_ble_eq_true rfl) dX8_init_78 ?_
    refine k_istore hO dX8_init_81 (by decide) (lv' := [(6, .int 108), (5, .int 12), (4, .int 0), (3, .int 0), (2, .int 2), (0, .ref h0), (1, .ref p1)]) rfl ?_
    refine k_iload hO dX8_init_83 0 rfl ?_
    refine k_bipush hO dX8_init_85 ic_b_32 ?_
    refine k_icmp_eqF (pc := 87) hO dX8_init_87 (tgt := 109) (by decide) (by decide) ?_
    refine k_bipush hO dX8_init_90 ic_b_27 ?_
    refine k_iload_n hO dX8_init_92 3 rfl rfl ?_
    refine k_imul hO dX8_init_93 (v := 0) (by decide) ?_
    refine k_iload hO dX8_init_94 0 rfl ?_
    refine k_iadd hO dX8_init_96 (v := 108) (by decide) ?_
    refine k_bipush hO dX8_init_97 ic_b_97 ?_
    refine k_isub hO dX8_init_99 (v := 11) (by decide) ?_
    refine k_iconst hO dX8_init_100 ic_i_1 ?_
    refine k_iadd hO dX8_init_101 (v := 12) (by decide) ?_
    refine k_istore_n hO dX8_init_102 rfl (by decide) (lv' := [(3, .int 12), (6, .int 108), (5, .int 12), (4, .int 0), (2, .int 2), (0, .ref h0), (1, .ref p1)]) rfl ?_
    refine k_iinc hO dX8_init_103 3 rfl (v := 1) (by decide) (by decide) (lv' := [(4, .int 1), (3, .int 12), (6, .int 108), (5, .int 12), (2, .int 2), (0, .ref h0), (1, .ref p1)]) rfl ?_
    refine k_goto (pc := 106) hO dX8_init_106 (tgt := 135) (by decide) ?_
    refine k_iinc hO dX8_init_135 3 rfl (v := 13) (by decide) (by decide) (lv' := [(5, .int 13), (4, .int 1), (3, .int 12), (6, .int 108), (2, .int 2), (0, .ref h0), (1, .ref p1)]) rfl ?_
    refine k_goto (pc := 138) hO dX8_init_138 (tgt := 64) (by decide) ?_
    refine k_iload hO dX8_init_64 0 rfl ?_
    refine k_ldcS hO rfl dX8_init_66 ?_
    refine k_strlen hO w295 (Nat.le_of_ble_eq_true rfl) (Nat.le_of_ble_eq_true rfl) (Nat.le_of_ble_eq_true rfl) (Nat.le_of_ble_eq_true rfl) (Nat.le_of_ble_eq_true rfl) dX8_init_68 ?_
    refine k_icmp_geF (pc := 71) hO dX8_init_71 (tgt := 141) (by decide) (by decide) ?_
    refine k_ldcS hO rfl dX8_init_74 ?_
    refine k_iload hO dX8_init_76 0 rfl ?_
    refine k_charAt hO (k := 13) (v := 97) (Nat.le_of_ble_eq_true rfl) rfl rfl w305 (Nat.le_of_ble_eq_true rfl) (Nat.le_of_ble_eq_true rfl) (Nat.le_of_ble_eq_true rfl) (Nat.le_of_ble_eq_true rfl) (Nat.le_of_ble_eq_true rfl) dX8_init_78 ?_
    refine k_istore hO dX8_init_81 (by decide) (lv' := [(6, .int 97), (5, .int 13), (4, .int 1), (3, .int 12), (2, .int 2), (0, .ref h0), (1, .ref p1)]) rfl ?_
    refine k_iload hO dX8_init_83 0 rfl ?_
    refine k_bipush hO dX8_init_85 ic_b_32 ?_
    refine k_icmp_eqF (pc := 87) hO dX8_init_87 (tgt := 109) (by decide) (by decide) ?_
    refine k_bipush hO dX8_init_90 ic_b_27 ?_
    refine k_iload_n hO dX8_init_92 3 rfl rfl ?_
    refine k_imul hO dX8_init_93 (v := 324) (by decide) ?_
    refine k_iload hO dX8_init_94 0 rfl ?_
    refine k_iadd hO dX8_init_96 (v := 421) (by decide) ?_
    refine k_bipush hO dX8_init_97 ic_b_97 ?_
    refine k_isub hO dX8_init_99 (v := 324) (by decide) ?_
    refine k_iconst hO dX8_init_100 ic_i_1 ?_
    refine k_iadd hO dX8_init_101 (v := 325) (by decide) ?_
    refine k_istore_n hO dX8_init_102 rfl (by decide) (lv' := [(3, .int 325), (6, .int 97), (5, .int 13), (4, .int 1), (2, .int 2), (0, .ref h0), (1, .ref p1)]) rfl ?_
    refine k_iinc hO dX8_init_103 3 rfl (v := 2) (by decide) (by decide) (lv' := [(4, .int 2), (3, .int 325), (6, .int 97), (5, .int 13), (2, .int 2), (0, .ref h0), (1, .ref p1)]) rfl ?_
    refine k_goto (pc := 106) hO dX8_init_106 (tgt := 135) (by decide) ?_
    refine k_iinc hO dX8_init_135 3 rfl (v := 14) (by decide) (by decide) (lv' := [(5, .int 14), (4, .int 2), (3, .int 325), (6, .int 97), (2, .int 2), (0, .ref h0), (1, .ref p1)]) rfl ?_
    refine k_goto (pc := 138) hO dX8_init_138 (tgt := 64) (by decide) ?_
    refine k_iload hO dX8_init_64 0 rfl ?_
    refine k_ldcS hO rfl dX8_init_66 ?_
    refine k_strlen hO w295 (Nat.le_of_ble_eq_true rfl) (Nat.le_of_ble_eq_true rfl) (Nat.le_of_ble_eq_true rfl) (Nat.le_of_ble_eq_true rfl) (Nat.le_of_ble_eq_true rfl) dX8_init_68 ?_
    refine k_icmp_geF (pc := 71) hO dX8_init_71 (tgt := 141) (by decide) (by decide) ?_
    refine k_ldcS hO rfl dX8_init_74 ?_
    refine k_iload hO dX8_init_76 0 rfl ?_
    refine k_charAt hO (k := 14) (v := 115) (Nat.le_of_ble_eq_true rfl) rfl rfl w305 (Nat.le_of_ble_eq_true rfl) (Nat.le_of_ble_eq_true rfl) (Nat.le_of_ble_eq_true rfl) (Nat.le_of_ble_eq_true rfl) (Nat.le_of_ble_eq_true rfl) dX8_init_78 ?_
    refine k_istore hO dX8_init_81 (by decide) (lv' := [(6, .int 115), (5, .int 14), (4, .int 2), (3, .int 325), (2, .int 2), (0, .ref h0), (1, .ref p1)]) rfl ?_
    refine k_iload hO dX8_init_83 0 rfl ?_
    refine k_bipush hO dX8_init_85 ic_b_32 ?_
    refine k_icmp_eqF (pc := 87) hO dX8_init_87 (tgt := 109) (by decide) (by decide) ?_
    refine k_bipush hO dX8_init_90 ic_b_27 ?_
    refine k_iload_n hO dX8_init_92 3 rfl rfl ?_
    refine k_imul hO dX8_init_93 (v := 8775) (by decide) ?_
    refine k_iload hO dX8_init_94 0 rfl ?_
    refine k_iadd hO dX8_init_96 (v := 8890) (by decide) ?_
    refine k_bipush hO dX8_init_97 ic_b_97 ?_
    refine k_isub hO dX8_init_99 (v := 8793) (by decide) ?_
    refine k_iconst hO dX8_init_100 ic_i_1 ?_
    refine k_iadd hO dX8_init_101 (v := 8794) (by decide) ?_
    refine k_istore_n hO dX8_init_102 rfl (by decide) (lv' := [(3, .int 8794), (6, .int 115), (5, .int 14), (4, .int 2), (2, .int 2), (0, .ref h0), (1, .ref p1)]) rfl ?_
    refine k_iinc hO dX8_init_103 3 rfl (v := 3) (by decide) (by decide) (lv' := [(4, .int 3), (3, .int 8794), (6, .int 115), (5, .int 14), (2, .int 2), (0, .ref h0), (1, .ref p1)]) rfl ?_
    refine k_goto (pc := 106) hO dX8_init_106 (tgt := 135) (by decide) ?_
    refine k_iinc hO dX8_init_135 3 rfl (v := 15) (by decide) (by decide) (lv' := [(5, .int 15), (4, .int 3), (3, .int 8794), (6, .int 115), (2, .int 2), (0, .ref h0), (1, .ref p1)]) rfl ?_
    refine k_goto (pc := 138) hO dX8_init_138 (tgt := 64) (by decide) ?_
    refine k_iload hO dX8_init_64 0 rfl ?_
    refine k_ldcS hO rfl dX8_init_66 ?_
    refine k_strlen hO w295 (Nat.le_of_ble_eq_true rfl) (Nat.le_of_ble_eq_true rfl) (Nat.le_of_ble_eq_true rfl) (Nat.le_of_ble_eq_true rfl) (Nat.le_of_ble_eq_true rfl) dX8_init_68 ?_
    refine k_icmp_geF (pc := 71) hO dX8_init_71 (tgt := 141) (by decide) (by decide) ?_
    refine k_ldcS hO rfl dX8_init_74 ?_
    refine k_iload hO dX8_init_76 0 rfl ?_
    refine k_charAt hO (k := 15) (v := 116) (Nat.le_of_ble_eq_true rfl) rfl rfl w305 (Nat.le_of_ble_eq_true rfl) (Nat.le_of_ble_eq_true rfl) (Nat.le_of_ble_eq_true rfl) (Nat.le_of_ble_eq_true rfl) (Nat.le_of_ble_eq_true rfl) dX8_init_78 ?_
    refine k_istore hO dX8_init_81 (by decide) (lv' := [(6, .int 116), (5, .int 15), (4, .int 3), (3, .int 8794), (2, .int 2), (0, .ref h0), (1, .ref p1)]) rfl ?_
    refine k_iload hO dX8_init_83 0 rfl ?_
    refine k_bipush hO dX8_init_85 ic_b_32 ?_
    refine k_icmp_eqF (pc := 87) hO dX8_init_87 (tgt := 109) (by decide) (by decide) ?_
    refine k_bipush hO dX8_init_90 ic_b_27 ?_
    refine k_iload_n hO dX8_init_92 3 rfl rfl ?_
    refine k_imul hO dX8_init_93 (v := 237438) (by decide) ?_
    refine k_iload hO dX8_init_94 0 rfl ?_
    refine k_iadd hO dX8_init_96 (v := 237554) (by decide) ?_
    refine k_bipush hO dX8_init_97 ic_b_97 ?_
    refine k_isub hO dX8_init_99 (v := 237457) (by decide) ?_
    refine k_iconst hO dX8_init_100 ic_i_1 ?_
    refine k_iadd hO dX8_init_101 (v := 237458) (by decide) ?_
    refine k_istore_n hO dX8_init_102 rfl (by decide) (lv' := [(3, .int 237458), (6, .int 116), (5, .int 15), (4, .int 3), (2, .int 2), (0, .ref h0), (1, .ref p1)]) rfl ?_
    refine k_iinc hO dX8_init_103 3 rfl (v := 4) (by decide) (by decide) (lv' := [(4, .int 4), (3, .int 237458), (6, .int 116), (5, .int 15), (2, .int 2), (0, .ref h0), (1, .ref p1)]) rfl ?_
    refine k_goto (pc := 106) hO dX8_init_106 (tgt := 135) (by decide) ?_
    refine k_iinc hO dX8_init_135 3 rfl (v := 16) (by decide) (by decide) (lv' := [(5, .int 16), (4, .int 4), (3, .int 237458), (6, .int 116), (2, .int 2), (0, .ref h0), (1, .ref p1)]) rfl ?_
    refine k_goto (pc := 138) hO dX8_init_138 (tgt := 64) (by decide) ?_
    refine k_iload hO dX8_init_64 0 rfl ?_
    refine k_ldcS hO rfl dX8_init_66 ?_
    refine k_strlen hO w295 (Nat.le_of_ble_eq_true rfl) (Nat.le_of_ble_eq_true rfl) (Nat.le_of_ble_eq_true rfl) (Nat.le_of_ble_eq_true rfl) (Nat.le_of_ble_eq_true rfl) dX8_init_68 ?_
    refine k_icmp_geF (pc := 71) hO dX8_init_71 (tgt := 141) (by decide) (by decide) ?_
    refine k_ldcS hO rfl dX8_init_74 ?_
    refine k_iload hO dX8_init_76 0 rfl ?_
    refine k_charAt hO (k := 16) (v := 115) (Nat.le_of_ble_eq_true rfl) rfl rfl w305 (Nat.le_of_ble_eq_true rfl) (Nat.le_of_ble_eq_true rfl) (Nat.le_of_ble_eq_true rfl) (Nat.le_of_ble_eq_true rfl) (Nat.le_of_ble_eq_true rfl) dX8_init_78 ?_
    refine k_istore hO dX8_init_81 (by decide) (lv' := [(6, .int 115), (5, .int 16), (4, .int 4), (3, .int 237458), (2, .int 2), (0, .ref h0), (1, .ref p1)]) rfl ?_
    refine k_iload hO dX8_init_83 0 rfl ?_
    refine k_bipush hO dX8_init_85 ic_b_32 ?_
    refine k_icmp_eqF (pc := 87) hO dX8_init_87 (tgt := 109) (by decide) (by decide) ?_
    refine k_bipush hO dX8_init_90 ic_b_27 ?_
    refine k_iload_n hO dX8_init_92 3 rfl rfl ?_
    refine k_imul hO dX8_init_93 (v := 6411366) (by decide) ?_
    refine k_iload hO dX8_init_94 0 rfl ?_
    refine k_iadd hO dX8_init_96 (v := 6411481) (by decide) ?_
    refine k_bipush hO dX8_init_97 ic_b_97 ?_
    refine k_isub hO dX8_init_99 (v := 6411384) (by decide) ?_
    refine k_iconst hO dX8_init_100 ic_i_1 ?_
    refine k_iadd hO dX8_init_101 (v := 6411385) (by decide) ?_
    refine k_istore_n hO dX8_init_102 rfl (by decide) (lv' := [(3, .int 6411385), (6, .int 115), (5, .int 16), (4, .int 4), (2, .int 2), (0, .ref h0), (1, .ref p1)]) rfl ?_
    refine k_iinc hO dX8_init_103 3 rfl (v := 5) (by decide) (by decide) (lv' := [(4, .int 5), (3, .int 6411385), (6, .int 115), (5, .int 16), (2, .int 2), (0, .ref h0), (1, .ref p1)]) rfl ?_
    refine k_goto (pc := 106) hO dX8_init_106 (tgt := 135) (by decide) ?_
    refine k_iinc hO dX8_init_135 3 rfl (v := 17) (by decide) (by decide) (lv' := [(5, .int 17), (4, .int 5), (3, .int 6411385), (6, .int 115), (2, .int 2), (0, .ref h0), (1, .ref p1)]) rfl ?_
    refine k_goto (pc := 138) hO dX8_init_138 (tgt := 64) (by decide) ?_
    refine k_iload hO dX8_init_64 0 rfl ?_
    refine k_ldcS hO rfl dX8_init_66 ?_
    refine k_strlen hO w295 (Nat.le_of_ble_eq_true rfl) (Nat.le_of_ble_eq_true rfl) (Nat.le_of_ble_eq_true rfl) (Nat.le_of_ble_eq_true rfl) (Nat.le_of_ble_eq_true rfl) dX8_init_68 ?_
    refine k_icmp_geF (pc := 71) hO dX8_init_71 (tgt := 141) (by decide) (by decide) ?_
    refine k_ldcS hO rfl dX8_init_74 ?_
    refine k_iload hO dX8_init_76 0 rfl ?_
    refine k_charAt hO (k := 17) (v := 32) (Nat.le_of_ble_eq_true rfl) rfl rfl w305 (Nat.le_of_ble_eq_true rfl) (Nat.le_of_ble_eq_true rfl) (Nat.le_of_ble_eq_true rfl) (Nat.le_of_ble_eq_true rfl) (Nat.le_of_ble_eq_true rfl) dX8_init_78 ?_
    refine k_istore hO dX8_init_81 (by decide) (lv' := [(6, .int 32), (5, .int 17), (4, .int 5), (3, .int 6411385), (2, .int 2), (0, .ref h0), (1, .ref p1)]) rfl ?_
    refine k_iload hO dX8_init_83 0 rfl ?_
    refine k_bipush hO dX8_init_85 ic_b_32 ?_
    refine k_icmp_eqT (pc := 87) hO dX8_init_87 (tgt := 109) (by decide) (by decide) ?_
    refine k_iload_n hO dX8_init_109 4 rfl rfl ?_
    refine k_bipush hO dX8_init_110 ic_b_25 ?_
    refine k_icmp_geF (pc := 112) hO dX8_init_112 (tgt := 135) (by decide) (by decide) ?_
    refine k_aload_n hO dX8_init_115 5 rfl rfl ?_
    refine k_get hO flX8_11 0 rfl (v := .ref q7) rfl dX8_init_116 ?_
    refine k_iload_n hO dX8_init_119 4 rfl rfl ?_
    refine k_iload_n hO dX8_init_120 3 rfl rfl ?_
    refine k_iload hO dX8_init_121 2 rfl ?_
    refine k_fill hO fu_6411385_5 w343 (Nat.le_of_ble_eq_true rfl) (Nat.le_of_ble_eq_true rfl) (Nat.le_of_ble_eq_true rfl) (Nat.le_of_ble_eq_true rfl) (Nat.le_of_ble_eq_true rfl) dX8_init_123 ?_
    refine k_iast hO 1 rfl (by decide) (k := 2) (by decide) (ws' := [(h0, .inr (8, [.ref p1, .ref q7, .int 259, .int 0, .int 0, .int 0, .int 0, .int 0, .int (-1)])), (q7, .inl (cy 0, 25, .inl (upd (upd (upd (fun _ => 0) 0 291417210) 1 332864532) 2 173107395)))]) rfl dX8_init_126 ?_
    refine k_iinc hO dX8_init_127 4 rfl (v := 3) (by decide) (by decide) (lv' := [(2, .int 3), (6, .int 32), (5, .int 17), (4, .int 5), (3, .int 6411385), (0, .ref h0), (1, .ref p1)]) rfl ?_
    refine k_iconst hO dX8_init_130 ic_i_0 ?_
    refine k_istore_n hO dX8_init_131 rfl (by decide) (lv' := [(3, .int 0), (2, .int 3), (6, .int 32), (5, .int 17), (4, .int 5), (0, .ref h0), (1, .ref p1)]) rfl ?_
    refine k_iconst hO dX8_init_132 ic_i_0 ?_
    refine k_istore hO dX8_init_133 (by decide) (lv' := [(4, .int 0), (3, .int 0), (2, .int 3), (6, .int 32), (5, .int 17), (0, .ref h0), (1, .ref p1)]) rfl ?_
    refine k_iinc hO dX8_init_135 4 rfl (v := 18) (by decide) (by decide) (lv' := [(5, .int 18), (4, .int 0), (3, .int 0), (2, .int 3), (6, .int 32), (0, .ref h0), (1, .ref p1)]) rfl ?_
    refine k_goto (pc := 138) hO dX8_init_138 (tgt := 64) (by decide) ?_
    refine k_iload hO dX8_init_64 0 rfl ?_
    refine k_ldcS hO rfl dX8_init_66 ?_
    refine k_strlen hO w295 (Nat.le_of_ble_eq_true rfl) (Nat.le_of_ble_eq_true rfl) (Nat.le_of_ble_eq_true rfl) (Nat.le_of_ble_eq_true rfl) (Nat.le_of_ble_eq_true rfl) dX8_init_68 ?_
    refine k_icmp_geF (pc := 71) hO dX8_init_71 (tgt := 141) (by decide) (by decide) ?_
    refine k_ldcS hO rfl dX8_init_74 ?_
    refine k_iload hO dX8_init_76 0 rfl ?_
    refine k_charAt hO (k := 18) (v := 99) (Nat.le_of_ble_eq_true rfl) rfl rfl w305 (Nat.le_of_ble_eq_true rfl) (Nat.le_of_ble_eq_true rfl) (Nat.le_of_ble_eq_true rfl) (Nat.le_of_ble_eq_true rfl) (Nat.le_of_ble_eq_true rfl) dX8_init_78 ?_
    refine k_istore hO dX8_init_81 (by decide) (lv' := [(6, .int 99), (5, .int 18), (4, .int 0), (3, .int 0), (2, .int 3), (0, .ref h0), (1, .ref p1)]) rfl ?_
    refine k_iload hO dX8_init_83 0 rfl ?_
    refine k_bipush hO dX8_init_85 ic_b_32 ?_
    refine k_icmp_eqF (pc := 87) hO dX8_init_87 (tgt := 109) (by decide) (by decide) ?_
    refine k_bipush hO dX8_init_90 ic_b_27 ?_
    refine k_iload_n hO dX8_init_92 3 rfl rfl ?_
    refine k_imul hO dX8_init_93 (v := 0) (by decide) ?_
    refine k_iload hO dX8_init_94 0 rfl ?_
    refine k_iadd hO dX8_init_96 (v := 99) (by decide) ?_
    refine k_bipush hO dX8_init_97 ic_b_97 ?_
    refine k_isub hO dX8_init_99 (v := 2) (by decide) ?_
    refine k_iconst hO dX8_init_100 ic_i_1 ?_
    refine k_iadd hO dX8_init_101 (v := 3) (by decide) ?_
    refine k_istore_n hO dX8_init_102 rfl (by decide) (lv' := [(3, .int 3), (6, .int 99), (5, .int 18), (4, .int 0), (2, .int 3), (0, .ref h0), (1, .ref p1)]) rfl ?_
    refine k_iinc hO dX8_init_103 3 rfl (v := 1) (by decide) (by decide) (lv' := [(4, .int 1), (3, .int 3), (6, .int 99), (5, .int 18), (2, .int 3), (0, .ref h0), (1, .ref p1)]) rfl ?_
    refine k_goto (pc := 106) hO dX8_init_106 (tgt := 135) (by decide) ?_
    refine k_iinc hO dX8_init_135 3 rfl (v := 19) (by decide) (by decide) (lv' := [(5, .int 19), (4, .int 1), (3, .int 3), (6, .int 99), (2, .int 3), (0, .ref h0), (1, .ref p1)]) rfl ?_
    refine k_goto (pc := 138) hO dX8_init_138 (tgt := 64) (by decide) ?_
    refine k_iload hO dX8_init_64 0 rfl ?_
    refine k_ldcS hO rfl dX8_init_66 ?_
    refine k_strlen hO w295 (Nat.le_of_ble_eq_true rfl) (Nat.le_of_ble_eq_true rfl) (Nat.le_of_ble_eq_true rfl) (Nat.le_of_ble_eq_true rfl) (Nat.le_of_ble_eq_true rfl) dX8_init_68 ?_
    refine k_icmp_geF (pc := 71) hO dX8_init_71 (tgt := 141) (by decide) (by decide) ?_
    refine k_ldcS hO rfl dX8_init_74 ?_
    refine k_iload hO dX8_init_76 0 rfl ?_
    refine k_charAt hO (k := 19) (v := 111) (Nat.le_of_ble_eq_true rfl) rfl rfl w305 (Nat.le_of_ble_eq_true rfl) (Nat.le_of_ble_eq_true rfl) (Nat.le_of_ble_eq_true rfl) (Nat.le_of_ble_eq_true rfl) (Nat.le_of_ble_eq_true rfl) dX8_init_78 ?_
    refine k_istore hO dX8_init_81 (by decide) (lv' := [(6, .int 111), (5, .int 19), (4, .int 1), (3, .int 3), (2, .int 3), (0, .ref h0), (1, .ref p1)]) rfl ?_
    refine k_iload hO dX8_init_83 0 rfl ?_
    refine k_bipush hO dX8_init_85 ic_b_32 ?_
    refine k_icmp_eqF (pc := 87) hO dX8_init_87 (tgt := 109) (by decide) (by decide) ?_
    refine k_bipush hO dX8_init_90 ic_b_27 ?_
    refine k_iload_n hO dX8_init_92 3 rfl rfl ?_
    refine k_imul hO dX8_init_93 (v := 81) (by decide) ?_
    refine k_iload hO dX8_init_94 0 rfl ?_
    refine k_iadd hO dX8_init_96 (v := 192) (by decide) ?_
    refine k_bipush hO dX8_init_97 ic_b_97 ?_
    refine k_isub hO dX8_init_99 (v := 95) (by decide) ?_
    refine k_iconst hO dX8_init_100 ic_i_1 ?_
    refine k_iadd hO dX8_init_101 (v := 96) (by decide) ?_
    refine k_istore_n hO dX8_init_102 rfl (by decide) (lv' := [(3, .int 96), (6, .int 111), (5, .int 19), (4, .int 1), (2, .int 3), (0, .ref h0), (1, .ref p1)]) rfl ?_
    refine k_iinc hO dX8_init_103 3 rfl (v := 2) (by decide) (by decide) (lv' := [(4, .int 2), (3, .int 96), (6, .int 111), (5, .int 19), (2, .int 3), (0, .ref h0), (1, .ref p1)]) rfl ?_
    refine k_goto (pc := 106) hO dX8_init_106 (tgt := 135) (by decide) ?_
    refine k_iinc hO dX8_init_135 3 rfl (v := 20) (by decide) (by decide) (lv' := [(5, .int 20), (4, .int 2), (3, .int 96), (6, .int 111), (2, .int 3), (0, .ref h0), (1, .ref p1)]) rfl ?_
    refine k_goto (pc := 138) hO dX8_init_138 (tgt := 64) (by decide) ?_
    refine k_iload hO dX8_init_64 0 rfl ?_
    refine k_ldcS hO rfl dX8_init_66 ?_
    refine k_strlen hO w295 (Nat.le_of_ble_eq_true rfl) (Nat.le_of_ble_eq_true rfl) (Nat.le_of_ble_eq_true rfl) (Nat.le_of_ble_eq_true rfl) (Nat.le_of_ble_eq_true rfl) dX8_init_68 ?_
    refine k_icmp_geF (pc := 71) hO dX8_init_71 (tgt := 141) (by decide) (by decide) ?_
    refine k_ldcS hO rfl dX8_init_74 ?_
    refine k_iload hO dX8_init_76 0 rfl ?_
    refine k_charAt hO (k := 20) (v := 114) (Nat.le_of_ble_eq_true rfl) rfl rfl w305 (Nat.le_of_ble_eq_true rfl) (Nat.le_of_ble_eq_true rfl) (Nat.le_of_ble_eq_true rfl) (Nat.le_of_ble_eq_true rfl) (Nat.le_of_ble_eq_true rfl) dX8_init_78 ?_
    refine k_istore hO dX8_init_81 (by decide) (lv' := [(6, .int 114), (5, .int 20), (4, .int 2), (3, .int 96), (2, .int 3), (0, .ref h0), (1, .ref p1)]) rfl ?_
    refine k_iload hO dX8_init_83 0 rfl ?_
    refine k_bipush hO dX8_init_85 ic_b_32 ?_
    refine k_icmp_eqF (pc := 87) hO dX8_init_87 (tgt := 109) (by decide) (by decide) ?_
    refine k_bipush hO dX8_init_90 ic_b_27 ?_
    refine k_iload_n hO dX8_init_92 3 rfl rfl ?_
    refine k_imul hO dX8_init_93 (v := 2592) (by decide) ?_
    refine k_iload hO dX8_init_94 0 rfl ?_
    refine k_iadd hO dX8_init_96 (v := 2706) (by decide) ?_
    refine k_bipush hO dX8_init_97 ic_b_97 ?_
    refine k_isub hO dX8_init_99 (v := 2609) (by decide) ?_
    refine k_iconst hO dX8_init_100 ic_i_1 ?_
    refine k_iadd hO dX8_init_101 (v := 2610) (by decide) ?_
    refine k_istore_n hO dX8_init_102 rfl (by decide) (lv' := [(3, .int 2610), (6, .int 114), (5, .int 20), (4, .int 2), (2, .int 3), (0, .ref h0), (1, .ref p1)]) rfl ?_
    refine k_iinc hO dX8_init_103 3 rfl (v := 3) (by decide) (by decide) (lv' := [(4, .int 3), (3, .int 2610), (6, .int 114), (5, .int 20), (2, .int 3), (0, .ref h0), (1, .ref p1)]) rfl ?_
    refine k_goto (pc := 106) hO dX8_init_106 (tgt := 135) (by decide) ?_
    refine k_iinc hO dX8_init_135 3 rfl (v := 21) (by decide) (by decide) (lv' := [(5, .int 21), (4, .int 3), (3, .int 2610), (6, .int 114), (2, .int 3), (0, .ref h0), (1, .ref p1)]) rfl ?_
    refine k_goto (pc := 138) hO dX8_init_138 (tgt := 64) (by decide) ?_
    refine k_iload hO dX8_init_64 0 rfl ?_
    refine k_ldcS hO rfl dX8_init_66 ?_
    refine k_strlen hO w295 (Nat.le_of_ble_eq_true rfl) (Nat.le_of_ble_eq_true rfl) (Nat.le_of_ble_eq_true rfl) (Nat.le_of_ble_eq_true rfl) (Nat.le_of_ble_eq_true rfl) dX8_init_68 ?_
    refine k_icmp_geF (pc := 71) hO dX8_init_71 (tgt := 141) (by decide) (by decide) ?_
    refine k_ldcS hO rfl dX8_init_74 ?_
    refine k_iload hO dX8_init_76 0 rfl ?_
    refine k_charAt hO (k := 21) (v := 110) (Nat.le_of_ble_eq_true rfl) rfl rfl w305 (Nat.le_of_ble_eq_true rfl) (Nat.le_of_ble_eq_true rfl) (Nat.le_of_ble_eq_true rfl) (Nat.le_of_ble_eq_true rfl) (Nat.le_of_ble_eq_true rfl) dX8_init_78 ?_
    refine k_istore hO dX8_init_81 (by decide) (lv' := [(6, .int 110), (5, .int 21), (4, .int 3), (3, .int 2610), (2, .int 3), (0, .ref h0), (1, .ref p1)]) rfl ?_
    refine k_iload hO dX8_init_83 0 rfl ?_
    refine k_bipush hO dX8_init_85 ic_b_32 ?_
    refine k_icmp_eqF (pc := 87) hO dX8_init_87 (tgt := 109) (by decide) (by decide) ?_
    refine k_bipush hO dX8_init_90 ic_b_27 ?_
    refine k_iload_n hO dX8_init_92 3 rfl rfl ?_
    refine k_imul hO dX8_init_93 (v := 70470) (by decide) ?_
    refine k_iload hO dX8_init_94 0 rfl ?_
    refine k_iadd hO dX8_init_96 (v := 70580) (by decide) ?_
    refine k_bipush hO dX8_init_97 ic_b_97 ?_
    refine k_isub hO dX8_init_99 (v := 70483) (by decide) ?_
    refine k_iconst hO dX8_init_100 ic_i_1 ?_
    refine k_iadd hO dX8_init_101 (v := 70484) (by decide) ?_
    refine k_istore_n hO dX8_init_102 rfl (by decide) (lv' := [(3, .int 70484), (6, .int 110), (5, .int 21), (4, .int 3), (2, .int 3), (0, .ref h0), (1, .ref p1)]) rfl ?_
    refine k_iinc hO dX8_init_103 3 rfl (v := 4) (by decide) (by decide) (lv' := [(4, .int 4), (3, .int 70484), (6, .int 110), (5, .int 21), (2, .int 3), (0, .ref h0), (1, .ref p1)]) rfl ?_
    refine k_goto (pc := 106) hO dX8_init_106 (tgt := 135) (by decide) ?_
    refine k_iinc hO dX8_init_135 3 rfl (v := 22) (by decide) (by decide) (lv' := [(5, .int 22), (4, .int 4), (3, .int 70484), (6, .int 110), (2, .int 3), (0, .ref h0), (1, .ref p1)]) rfl ?_
    refine k_goto (pc := 138) hO dX8_init_138 (tgt := 64) (by decide) ?_
    refine k_iload hO dX8_init_64 0 rfl ?_
    refine k_ldcS hO rfl dX8_init_66 ?_
    refine k_strlen hO w295 (Nat.le_of_ble_eq_true rfl) (Nat.le_of_ble_eq_true rfl) (Nat.le_of_ble_eq_true rfl) (Nat.le_of_ble_eq_true rfl) (Nat.le_of_ble_eq_true rfl) dX8_init_68 ?_
    refine k_icmp_geF (pc := 71) hO dX8_init_71 (tgt := 141) (by decide) (by decide) ?_
    refine k_ldcS hO rfl dX8_init_74 ?_
    refine k_iload hO dX8_init_76 0 rfl ?_
    refine k_charAt hO (k := 22) (v := 101) (Nat.le_of_ble_eq_true rfl) rfl rfl w305 (Nat.le_of_ble_eq_true rfl) (Nat.le_of_ble_eq_true rfl) (Nat.le_of_ble_eq_true rfl) (Nat.le_of_ble_eq_true rfl) (Nat.le_of_ble_eq_true rfl) dX8_init_78 ?_
    refine k_istore hO dX8_init_81 (by decide) (lv' := [(6, .int 101), (5, .int 22), (4, .int 4), (3, .int 70484), (2, .int 3), (0, .ref h0), (1, .ref p1)]) rfl ?_
    refine k_iload hO dX8_init_83 0 rfl ?_
    refine k_bipush hO dX8_init_85 ic_b_32 ?_
    refine k_icmp_eqF (pc := 87) hO dX8_init_87 (tgt := 109) (by decide) (by decide) ?_
    refine k_bipush hO dX8_init_90 ic_b_27 ?_
    refine k_iload_n hO dX8_init_92 3 rfl rfl ?_
    refine k_imul hO dX8_init_93 (v := 1903068) (by decide) ?_
    refine k_iload hO dX8_init_94 0 rfl ?_
    refine k_iadd hO dX8_init_96 (v := 1903169) (by decide) ?_
    refine k_bipush hO dX8_init_97 ic_b_97 ?_
    refine k_isub hO dX8_init_99 (v := 1903072) (by decide) ?_
    refine k_iconst hO dX8_init_100 ic_i_1 ?_
    refine k_iadd hO dX8_init_101 (v := 1903073) (by decide) ?_
    refine k_istore_n hO dX8_init_102 rfl (by decide) (lv' := [(3, .int 1903073), (6, .int 101), (5, .int 22), (4, .int 4), (2, .int 3), (0, .ref h0), (1, .ref p1)]) rfl ?_
    refine k_iinc hO dX8_init_103 3 rfl (v := 5) (by decide) (by decide) (lv' := [(4, .int 5), (3, .int 1903073), (6, .int 101), (5, .int 22), (2, .int 3), (0, .ref h0), (1, .ref p1)]) rfl ?_
    refine k_goto (pc := 106) hO dX8_init_106 (tgt := 135) (by decide) ?_
    refine k_iinc hO dX8_init_135 3 rfl (v := 23) (by decide) (by decide) (lv' := [(5, .int 23), (4, .int 5), (3, .int 1903073), (6, .int 101), (2, .int 3), (0, .ref h0), (1, .ref p1)]) rfl ?_
    refine k_goto (pc := 138) hO dX8_init_138 (tgt := 64) (by decide) ?_
    refine k_iload hO dX8_init_64 0 rfl ?_
    refine k_ldcS hO rfl dX8_init_66 ?_
    refine k_strlen hO w295 (Nat.le_of_ble_eq_true rfl) (Nat.le_of_ble_eq_true rfl) (Nat.le_of_ble_eq_true rfl) (Nat.le_of_ble_eq_true rfl) (Nat.le_of_ble_eq_true rfl) dX8_init_68 ?_
    refine k_icmp_geF (pc := 71) hO dX8_init_71 (tgt := 141) (by decide) (by decide) ?_
    refine k_ldcS hO rfl dX8_init_74 ?_
    refine k_iload hO dX8_init_76 0 rfl ?_
    refine k_charAt hO (k := 23) (v := 114) (Nat.le_of_ble_eq_true rfl) rfl rfl w305 (Nat.le_of_ble_eq_true rfl) (Nat.le_of_ble_eq_true rfl) (Nat.le_of_ble_eq_true rfl) (Nat.le_of_ble_eq_true rfl) (Nat.le_of_ble_eq_true rfl) dX8_init_78 ?_
    refine k_istore hO dX8_init_81 (by decide) (lv' := [(6, .int 114), (5, .int 23), (4, .int 5), (3, .int 1903073), (2, .int 3), (0, .ref h0), (1, .ref p1)]) rfl ?_
    refine k_iload hO dX8_init_83 0 rfl ?_
    refine k_bipush hO dX8_init_85 ic_b_32 ?_
    refine k_icmp_eqF (pc := 87) hO dX8_init_87 (tgt := 109) (by decide) (by decide) ?_
    refine k_bipush hO dX8_init_90 ic_b_27 ?_
    refine k_iload_n hO dX8_init_92 3 rfl rfl ?_
    refine k_imul hO dX8_init_93 (v := 51382971) (by decide) ?_
    refine k_iload hO dX8_init_94 0 rfl ?_
    refine k_iadd hO dX8_init_96 (v := 51383085) (by decide) ?_
    refine k_bipush hO dX8_init_97 ic_b_97 ?_
    refine k_isub hO dX8_init_99 (v := 51382988) (by decide) ?_
    refine k_iconst hO dX8_init_100 ic_i_1 ?_
    refine k_iadd hO dX8_init_101 (v := 51382989) (by decide) ?_
    refine k_istore_n hO dX8_init_102 rfl (by decide) (lv' := [(3, .int 51382989), (6, .int 114), (5, .int 23), (4, .int 5), (2, .int 3), (0, .ref h0), (1, .ref p1)]) rfl ?_
    refine k_iinc hO dX8_init_103 3 rfl (v := 6) (by decide) (by decide) (lv' := [(4, .int 6), (3, .int 51382989), (6, .int 114), (5, .int 23), (2, .int 3), (0, .ref h0), (1, .ref p1)]) rfl ?_
    refine k_goto (pc := 106) hO dX8_init_106 (tgt := 135) (by decide) ?_
    refine k_iinc hO dX8_init_135 3 rfl (v := 24) (by decide) (by decide) (lv' := [(5, .int 24), (4, .int 6), (3, .int 51382989), (6, .int 114), (2, .int 3), (0, .ref h0), (1, .ref p1)]) rfl ?_
    refine k_goto (pc := 138) hO dX8_init_138 (tgt := 64) (by decide) ?_
    refine k_iload hO dX8_init_64 0 rfl ?_
    refine k_ldcS hO rfl dX8_init_66 ?_
    refine k_strlen hO w295 (Nat.le_of_ble_eq_true rfl) (Nat.le_of_ble_eq_true rfl) (Nat.le_of_ble_eq_true rfl) (Nat.le_of_ble_eq_true rfl) (Nat.le_of_ble_eq_true rfl) dX8_init_68 ?_
    refine k_icmp_geF (pc := 71) hO dX8_init_71 (tgt := 141) (by decide) (by decide) ?_
    refine k_ldcS hO rfl dX8_init_74 ?_
    refine k_iload hO dX8_init_76 0 rfl ?_
    refine k_charAt hO (k := 24) (v := 32) (Nat.le_of_ble_eq_true rfl) rfl rfl w305 (Nat.le_of_ble_eq_true rfl) (Nat.le_of_ble_eq_true rfl) (Nat.le_of_ble_eq_true rfl) (Nat.le_of_ble_eq_true rfl) (Nat.le_of_ble_eq_true rfl) dX8_init_78 ?_
    refine k_istore hO dX8_init_81 (by decide) (lv' := [(6, .int 32), (5, .int 24), (4, .int 6), (3, .int 51382989), (2, .int 3), (0, .ref h0), (1, .ref p1)]) rfl ?_
    refine k_iload hO dX8_init_83 0 rfl ?_
    refine k_bipush hO dX8_init_85 ic_b_32 ?_
    refine k_icmp_eqT (pc := 87) hO dX8_init_87 (tgt := 109) (by decide) (by decide) ?_
    refine k_iload_n hO dX8_init_109 4 rfl rfl ?_
    refine k_bipush hO dX8_init_110 ic_b_25 ?_
    refine k_icmp_geF (pc := 112) hO dX8_init_112 (tgt := 135) (by decide) (by decide) ?_
    refine k_aload_n hO dX8_init_115 5 rfl rfl ?_
    refine k_get hO flX8_11 0 rfl (v := .ref q7) rfl dX8_init_116 ?_
    refine k_iload_n hO dX8_init_119 4 rfl rfl ?_
    refine k_iload_n hO dX8_init_120 3 rfl rfl ?_
    refine k_iload hO dX8_init_121 2 rfl ?_
    refine k_fill hO fu_51382989_6 w343 (Nat.le_of_ble_eq_true rfl) (Nat.le_of_ble_eq_true rfl) (Nat.le_of_ble_eq_true rfl) (Nat.le_of_ble_eq_true rfl) (Nat.le_of_ble_eq_true rfl) dX8_init_123 ?_
    refine k_iast hO 1 rfl (by decide) (k := 3) (by decide) (ws' := [(h0, .inr (8, [.ref p1, .ref q7, .int 259, .int 0, .int 0, .int 0, .int 0, .int 0, .int (-1)])), (q7, .inl (cy 0, 25, .inl (upd (upd (upd (upd (fun _ => 0) 0 291417210) 1 332864532) 2 173107395) 3 51382989)))]) rfl dX8_init_126 ?_
    refine k_iinc hO dX8_init_127 4 rfl (v := 4) (by decide) (by decide) (lv' := [(2, .int 4), (6, .int 32), (5, .int 24), (4, .int 6), (3, .int 51382989), (0, .ref h0), (1, .ref p1)]) rfl ?_
    refine k_iconst hO dX8_init_130 ic_i_0 ?_
    refine k_istore_n hO dX8_init_131 rfl (by decide) (lv' := [(3, .int 0), (2, .int 4), (6, .int 32), (5, .int 24), (4, .int 6), (0, .ref h0), (1, .ref p1)]) rfl ?_
    refine k_iconst hO dX8_init_132 ic_i_0 ?_
    refine k_istore hO dX8_init_133 (by decide) (lv' := [(4, .int 0), (3, .int 0), (2, .int 4), (6, .int 32), (5, .int 24), (0, .ref h0), (1, .ref p1)]) rfl ?_
    refine k_iinc hO dX8_init_135 4 rfl (v := 25) (by decide) (by decide) (lv' := [(5, .int 25), (4, .int 0), (3, .int 0), (2, .int 4), (6, .int 32), (0, .ref h0), (1, .ref p1)]) rfl ?_
    refine k_goto (pc := 138) hO dX8_init_138 (tgt := 64) (by decide) ?_
    refine k_iload hO dX8_init_64 0 rfl ?_
    refine k_ldcS hO rfl dX8_init_66 ?_
    refine k_strlen hO w295 (Nat.le_of_ble_eq_true rfl) (Nat.le_of_ble_eq_true rfl) (Nat.le_of_ble_eq_true rfl) (Nat.le_of_ble_eq_true rfl) (Nat.le_of_ble_eq_true rfl) dX8_init_68 ?_
    refine k_icmp_geF (pc := 71) hO dX8_init_71 (tgt := 141) (by decide) (by decide) ?_
    refine k_ldcS hO rfl dX8_init_74 ?_
    refine k_iload hO dX8_init_76 0 rfl ?_
    refine k_charAt hO (k := 25) (v := 114) (Nat.le_of_ble_eq_true rfl) rfl rfl w305 (Nat.le_of_ble_eq_true rfl) (Nat.le_of_ble_eq_true rfl) (Nat.le_of_ble_eq_true rfl) (Nat.le_of_ble_eq_true rfl) (Nat.le_of_ble_eq_true rfl) dX8_init_78 ?_
    refine k_istore hO dX8_init_81 (by decide) (lv' := [(6, .int 114), (5, .int 25), (4, .int 0), (3, .int 0), (2, .int 4), (0, .ref h0), (1, .ref p1)]) rfl ?_
    refine k_iload hO dX8_init_83 0 rfl ?_
    refine k_bipush hO dX8_init_85 ic_b_32 ?_
    refine k_icmp_eqF (pc := 87) hO dX8_init_87 (tgt := 109) (by decide) (by decide) ?_
    refine k_bipush hO dX8_init_90 ic_b_27 ?_
    refine k_iload_n hO dX8_init_92 3 rfl rfl ?_
    refine k_imul hO dX8_init_93 (v := 0) (by decide) ?_
    refine k_iload hO dX8_init_94 0 rfl ?_
    refine k_iadd hO dX8_init_96 (v := 114) (by decide) ?_
    refine k_bipush hO dX8_init_97 ic_b_97 ?_
    refine k_isub hO dX8_init_99 (v := 17) (by decide) ?_
    refine k_iconst hO dX8_init_100 ic_i_1 ?_
    refine k_iadd hO dX8_init_101 (v := 18) (by decide) ?_
    refine k_istore_n hO dX8_init_102 rfl (by decide) (lv' := [(3, .int 18), (6, .int 114), (5, .int 25), (4, .int 0), (2, .int 4), (0, .ref h0), (1, .ref p1)]) rfl ?_
    refine k_iinc hO dX8_init_103 3 rfl (v := 1) (by decide) (by decide) (lv' := [(4, .int 1), (3, .int 18), (6, .int 114), (5, .int 25), (2, .int 4), (0, .ref h0), (1, .ref p1)]) rfl ?_
    refine k_goto (pc := 106) hO dX8_init_106 (tgt := 135) (by decide) ?_
    refine k_iinc hO dX8_init_135 3 rfl (v := 26) (by decide) (by decide) (lv' := [(5, .int 26), (4, .int 1), (3, .int 18), (6, .int 114), (2, .int 4), (0, .ref h0), (1, .ref p1)]) rfl ?_
    refine k_goto (pc := 138) hO dX8_init_138 (tgt := 64) (by decide) ?_
    refine k_iload hO dX8_init_64 0 rfl ?_
    refine k_ldcS hO rfl dX8_init_66 ?_
    refine k_strlen hO w295 (Nat.le_of_ble_eq_true rfl) (Nat.le_of_ble_eq_true rfl) (Nat.le_of_ble_eq_true rfl) (Nat.le_of_ble_eq_true rfl) (Nat.le_of_ble_eq_true rfl) dX8_init_68 ?_
    refine k_icmp_geF (pc := 71) hO dX8_init_71 (tgt := 141) (by decide) (by decide) ?_
    refine k_ldcS hO rfl dX8_init_74 ?_
    refine k_iload hO dX8_init_76 0 rfl ?_
    refine k_charAt hO (k := 26) (v := 111) (Nat.le_of_ble_eq_true rfl) rfl rfl w305 (Nat.le_of_ble_eq_true rfl) (Nat.le_of_ble_eq_true rfl) (Nat.le_of_ble_eq_true rfl) (Nat.le_of_ble_eq_true rfl) (Nat.le_of_ble_eq_true rfl) dX8_init_78 ?_
    refine k_istore hO dX8_init_81 (by decide) (lv' := [(6, .int 111), (5, .int 26), (4, .int 1), (3, .int 18), (2, .int 4), (0, .ref h0), (1, .ref p1)]) rfl ?_
    refine k_iload hO dX8_init_83 0 rfl ?_
    refine k_bipush hO dX8_init_85 ic_b_32 ?_
    refine k_icmp_eqF (pc := 87) hO dX8_init_87 (tgt := 109) (by decide) (by decide) ?_
    refine k_bipush hO dX8_init_90 ic_b_27 ?_
    refine k_iload_n hO dX8_init_92 3 rfl rfl ?_
    refine k_imul hO dX8_init_93 (v := 486) (by decide) ?_
    refine k_iload hO dX8_init_94 0 rfl ?_
    refine k_iadd hO dX8_init_96 (v := 597) (by decide) ?_
    refine k_bipush hO dX8_init_97 ic_b_97 ?_
    refine k_isub hO dX8_init_99 (v := 500) (by decide) ?_
    refine k_iconst hO dX8_init_100 ic_i_1 ?_
    refine k_iadd hO dX8_init_101 (v := 501) (by decide) ?_
    refine k_istore_n hO dX8_init_102 rfl (by decide) (lv' := [(3, .int 501), (6, .int 111), (5, .int 26), (4, .int 1), (2, .int 4), (0, .ref h0), (1, .ref p1)]) rfl ?_
    refine k_iinc hO dX8_init_103 3 rfl (v := 2) (by decide) (by decide) (lv' := [(4, .int 2), (3, .int 501), (6, .int 111), (5, .int 26), (2, .int 4), (0, .ref h0), (1, .ref p1)]) rfl ?_
    refine k_goto (pc := 106) hO dX8_init_106 (tgt := 135) (by decide) ?_
    refine k_iinc hO dX8_init_135 3 rfl (v := 27) (by decide) (by decide) (lv' := [(5, .int 27), (4, .int 2), (3, .int 501), (6, .int 111), (2, .int 4), (0, .ref h0), (1, .ref p1)]) rfl ?_
    refine k_goto (pc := 138) hO dX8_init_138 (tgt := 64) (by decide) ?_
    refine k_iload hO dX8_init_64 0 rfl ?_
    refine k_ldcS hO rfl dX8_init_66 ?_
    refine k_strlen hO w295 (Nat.le_of_ble_eq_true rfl) (Nat.le_of_ble_eq_true rfl) (Nat.le_of_ble_eq_true rfl) (Nat.le_of_ble_eq_true rfl) (Nat.le_of_ble_eq_true rfl) dX8_init_68 ?_
    refine k_icmp_geF (pc := 71) hO dX8_init_71 (tgt := 141) (by decide) (by decide) ?_
    refine k_ldcS hO rfl dX8_init_74 ?_
    refine k_iload hO dX8_init_76 0 rfl ?_
    refine k_charAt hO (k := 27) (v := 97) (Nat.le_of_ble_eq_true rfl) rfl rfl w305 (Nat.le_of_ble_eq_true rfl) (Nat.le_of_ble_eq_true rfl) (Nat.le_of_ble_eq_true rfl) (Nat.le_of_ble_eq_true rfl) (Nat.le_of_ble_eq_true rfl) dX8_init_78 ?_
    refine k_istore hO dX8_init_81 (by decide) (lv' := [(6, .int 97), (5, .int 27), (4, .int 2), (3, .int 501), (2, .int 4), (0, .ref h0), (1, .ref p1)]) rfl ?_
    refine k_iload hO dX8_init_83 0 rfl ?_
    refine k_bipush hO dX8_init_85 ic_b_32 ?_
    refine k_icmp_eqF (pc := 87) hO dX8_init_87 (tgt := 109) (by decide) (by decide) ?_
    refine k_bipush hO dX8_init_90 ic_b_27 ?_
    refine k_iload_n hO dX8_init_92 3 rfl rfl ?_
    refine k_imul hO dX8_init_93 (v := 13527) (by decide) ?_
    refine k_iload hO dX8_init_94 0 rfl ?_
    refine k_iadd hO dX8_init_96 (v := 13624) (by decide) ?_
    refine k_bipush hO dX8_init_97 ic_b_97 ?_
    refine k_isub hO dX8_init_99 (v := 13527) (by decide) ?_
    refine k_iconst hO dX8_init_100 ic_i_1 ?_
    refine k_iadd hO dX8_init_101 (v := 13528) (by decide) ?_
    refine k_istore_n hO dX8_init_102 rfl (by decide) (lv' := [(3, .int 13528), (6, .int 97), (5, .int 27), (4, .int 2), (2, .int 4), (0, .ref h0), (1, .ref p1)]) rfl ?_
    refine k_iinc hO dX8_init_103 3 rfl (v := 3) (by decide) (by decide) (lv' := [(4, .int 3), (3, .int 13528), (6, .int 97), (5, .int 27), (2, .int 4), (0, .ref h0), (1, .ref p1)]) rfl ?_
    refine k_goto (pc := 106) hO dX8_init_106 (tgt := 135) (by decide) ?_
    refine k_iinc hO dX8_init_135 3 rfl (v := 28) (by decide) (by decide) (lv' := [(5, .int 28), (4, .int 3), (3, .int 13528), (6, .int 97), (2, .int 4), (0, .ref h0), (1, .ref p1)]) rfl ?_
    refine k_goto (pc := 138) hO dX8_init_138 (tgt := 64) (by decide) ?_
    refine k_iload hO dX8_init_64 0 rfl ?_
    refine k_ldcS hO rfl dX8_init_66 ?_
    refine k_strlen hO w295 (Nat.le_of_ble_eq_true rfl) (Nat.le_of_ble_eq_true rfl) (Nat.le_of_ble_eq_true rfl) (Nat.le_of_ble_eq_true rfl) (Nat.le_of_ble_eq_true rfl) dX8_init_68 ?_
    refine k_icmp_geF (pc := 71) hO dX8_init_71 (tgt := 141) (by decide) (by decide) ?_
    refine k_ldcS hO rfl dX8_init_74 ?_
    refine k_iload hO dX8_init_76 0 rfl ?_
    refine k_charAt hO (k := 28) (v := 100) (Nat.le_of_ble_eq_true rfl) rfl rfl w305 (Nat.le_of_ble_eq_true rfl) (Nat.le_of_ble_eq_true rfl) (Nat.le_of_ble_eq_true rfl) (Nat.le_of_ble_eq_true rfl) (Nat.le_of_ble_eq_true rfl) dX8_init_78 ?_
    refine k_istore hO dX8_init_81 (by decide) (lv' := [(6, .int 100), (5, .int 28), (4, .int 3), (3, .int 13528), (2, .int 4), (0, .ref h0), (1, .ref p1)]) rfl ?_
    refine k_iload hO dX8_init_83 0 rfl ?_
    refine k_bipush hO dX8_init_85 ic_b_32 ?_
    refine k_icmp_eqF (pc := 87) hO dX8_init_87 (tgt := 109) (by decide) (by decide) ?_
    refine k_bipush hO dX8_init_90 ic_b_27 ?_
    refine k_iload_n hO dX8_init_92 3 rfl rfl ?_
    refine k_imul hO dX8_init_93 (v := 365256) (by decide) ?_
    refine k_iload hO dX8_init_94 0 rfl ?_
    refine k_iadd hO dX8_init_96 (v := 365356) (by decide) ?_
    refine k_bipush hO dX8_init_97 ic_b_97 ?_
    refine k_isub hO dX8_init_99 (v := 365259) (by decide) ?_
    refine k_iconst hO dX8_init_100 ic_i_1 ?_
    refine k_iadd hO dX8_init_101 (v := 365260) (by decide) ?_
    refine k_istore_n hO dX8_init_102 rfl (by decide) (lv' := [(3, .int 365260), (6, .int 100), (5, .int 28), (4, .int 3), (2, .int 4), (0, .ref h0), (1, .ref p1)]) rfl ?_
    refine k_iinc hO dX8_init_103 3 rfl (v := 4) (by decide) (by decide) (lv' := [(4, .int 4), (3, .int 365260), (6, .int 100), (5, .int 28), (2, .int 4), (0, .ref h0), (1, .ref p1)]) rfl ?_
    refine k_goto (pc := 106) hO dX8_init_106 (tgt := 135) (by decide) ?_
    refine k_iinc hO dX8_init_135 3 rfl (v := 29) (by decide) (by decide) (lv' := [(5, .int 29), (4, .int 4), (3, .int 365260), (6, .int 100), (2, .int 4), (0, .ref h0), (1, .ref p1)]) rfl ?_
    refine k_goto (pc := 138) hO dX8_init_138 (tgt := 64) (by decide) ?_
    refine k_iload hO dX8_init_64 0 rfl ?_
    refine k_ldcS hO rfl dX8_init_66 ?_
    refine k_strlen hO w295 (Nat.le_of_ble_eq_true rfl) (Nat.le_of_ble_eq_true rfl) (Nat.le_of_ble_eq_true rfl) (Nat.le_of_ble_eq_true rfl) (Nat.le_of_ble_eq_true rfl) dX8_init_68 ?_
    refine k_icmp_geF (pc := 71) hO dX8_init_71 (tgt := 141) (by decide) (by decide) ?_
    refine k_ldcS hO rfl dX8_init_74 ?_
    refine k_iload hO dX8_init_76 0 rfl ?_
    refine k_charAt hO (k := 29) (v := 32) (Nat.le_of_ble_eq_true rfl) rfl rfl w305 (Nat.le_of_ble_eq_true rfl) (Nat.le_of_ble_eq_true rfl) (Nat.le_of_ble_eq_true rfl) (Nat.le_of_ble_eq_true rfl) (Nat.le_of_ble_eq_true rfl) dX8_init_78 ?_
    refine k_istore hO dX8_init_81 (by decide) (lv' := [(6, .int 32), (5, .int 29), (4, .int 4), (3, .int 365260), (2, .int 4), (0, .ref h0), (1, .ref p1)]) rfl ?_
    refine k_iload hO dX8_init_83 0 rfl ?_
    refine k_bipush hO dX8_init_85 ic_b_32 ?_
    refine k_icmp_eqT (pc := 87) hO dX8_init_87 (tgt := 109) (by decide) (by decide) ?_
    refine k_iload_n hO dX8_init_109 4 rfl rfl ?_
    refine k_bipush hO dX8_init_110 ic_b_25 ?_
    refine k_icmp_geF (pc := 112) hO dX8_init_112 (tgt := 135) (by decide) (by decide) ?_
    refine k_aload_n hO dX8_init_115 5 rfl rfl ?_
    refine k_get hO flX8_11 0 rfl (v := .ref q7) rfl dX8_init_116 ?_
    refine k_iload_n hO dX8_init_119 4 rfl rfl ?_
    refine k_iload_n hO dX8_init_120 3 rfl rfl ?_
    refine k_iload hO dX8_init_121 2 rfl ?_
    refine k_fill hO fu_365260_4 w343 (Nat.le_of_ble_eq_true rfl) (Nat.le_of_ble_eq_true rfl) (Nat.le_of_ble_eq_true rfl) (Nat.le_of_ble_eq_true rfl) (Nat.le_of_ble_eq_true rfl) dX8_init_123 ?_
    refine k_iast hO 1 rfl (by decide) (k := 4) (by decide) (ws' := [(h0, .inr (8, [.ref p1, .ref q7, .int 259, .int 0, .int 0, .int 0, .int 0, .int 0, .int (-1)])), (q7, .inl (cy 0, 25, .inl (upd (upd (upd (upd (upd (fun _ => 0) 0 291417210) 1 332864532) 2 173107395) 3 51382989) 4 266274540)))]) rfl dX8_init_126 ?_
    refine k_iinc hO dX8_init_127 4 rfl (v := 5) (by decide) (by decide) (lv' := [(2, .int 5), (6, .int 32), (5, .int 29), (4, .int 4), (3, .int 365260), (0, .ref h0), (1, .ref p1)]) rfl ?_
    refine k_iconst hO dX8_init_130 ic_i_0 ?_
    refine k_istore_n hO dX8_init_131 rfl (by decide) (lv' := [(3, .int 0), (2, .int 5), (6, .int 32), (5, .int 29), (4, .int 4), (0, .ref h0), (1, .ref p1)]) rfl ?_
    refine k_iconst hO dX8_init_132 ic_i_0 ?_
    refine k_istore hO dX8_init_133 (by decide) (lv' := [(4, .int 0), (3, .int 0), (2, .int 5), (6, .int 32), (5, .int 29), (0, .ref h0), (1, .ref p1)]) rfl ?_
    refine k_iinc hO dX8_init_135 4 rfl (v := 30) (by decide) (by decide) (lv' := [(5, .int 30), (4, .int 0), (3, .int 0), (2, .int 5), (6, .int 32), (0, .ref h0), (1, .ref p1)]) rfl ?_
    refine k_goto (pc := 138) hO dX8_init_138 (tgt := 64) (by decide) ?_
    refine k_iload hO dX8_init_64 0 rfl ?_
    refine k_ldcS hO rfl dX8_init_66 ?_
    refine k_strlen hO w295 (Nat.le_of_ble_eq_true rfl) (Nat.le_of_ble_eq_true rfl) (Nat.le_of_ble_eq_true rfl) (Nat.le_of_ble_eq_true rfl) (Nat.le_of_ble_eq_true rfl) dX8_init_68 ?_
    refine k_icmp_geF (pc := 71) hO dX8_init_71 (tgt := 141) (by decide) (by decide) ?_
    refine k_ldcS hO rfl dX8_init_74 ?_
    refine k_iload hO dX8_init_76 0 rfl ?_
    refine k_charAt hO (k := 30) (v := 116) (Nat.le_of_ble_eq_true rfl) rfl rfl w305 (Nat.le_of_ble_eq_true rfl) (Nat.le_of_ble_eq_true rfl) (Nat.le_of_ble_eq_true rfl) (Nat.le_of_ble_eq_true rfl) (Nat.le_of_ble_eq_true rfl) dX8_init_78 ?_
    refine k_istore hO dX8_init_81 (by decide) (lv' := [(6, .int 116), (5, .int 30), (4, .int 0), (3, .int 0), (2, .int 5), (0, .ref h0), (1, .ref p1)]) rfl ?_
    refine k_iload hO dX8_init_83 0 rfl ?_
    refine k_bipush hO dX8_init_85 ic_b_32 ?_
    refine k_icmp_eqF (pc := 87) hO dX8_init_87 (tgt := 109) (by decide) (by decide) ?_
    refine k_bipush hO dX8_init_90 ic_b_27 ?_
    refine k_iload_n hO dX8_init_92 3 rfl rfl ?_
    refine k_imul hO dX8_init_93 (v := 0) (by decide) ?_
    refine k_iload hO dX8_init_94 0 rfl ?_
    refine k_iadd hO dX8_init_96 (v := 116) (by decide) ?_
    refine k_bipush hO dX8_init_97 ic_b_97 ?_
    refine k_isub hO dX8_init_99 (v := 19) (by decide) ?_
    refine k_iconst hO dX8_init_100 ic_i_1 ?_
    refine k_iadd hO dX8_init_101 (v := 20) (by decide) ?_
    refine k_istore_n hO dX8_init_102 rfl (by decide) (lv' := [(3, .int 20), (6, .int 116), (5, .int 30), (4, .int 0), (2, .int 5), (0, .ref h0), (1, .ref p1)]) rfl ?_
    refine k_iinc hO dX8_init_103 3 rfl (v := 1) (by decide) (by decide) (lv' := [(4, .int 1), (3, .int 20), (6, .int 116), (5, .int 30), (2, .int 5), (0, .ref h0), (1, .ref p1)]) rfl ?_
    refine k_goto (pc := 106) hO dX8_init_106 (tgt := 135) (by decide) ?_
    refine k_iinc hO dX8_init_135 3 rfl (v := 31) (by decide) (by decide) (lv' := [(5, .int 31), (4, .int 1), (3, .int 20), (6, .int 116), (2, .int 5), (0, .ref h0), (1, .ref p1)]) rfl ?_
    refine k_goto (pc := 138) hO dX8_init_138 (tgt := 64) (by decide) ?_
    refine k_iload hO dX8_init_64 0 rfl ?_
    refine k_ldcS hO rfl dX8_init_66 ?_
    refine k_strlen hO w295 (Nat.le_of_ble_eq_true rfl) (Nat.le_of_ble_eq_true rfl) (Nat.le_of_ble_eq_true rfl) (Nat.le_of_ble_eq_true rfl) (Nat.le_of_ble_eq_true rfl) dX8_init_68 ?_
    refine k_icmp_geF (pc := 71) hO dX8_init_71 (tgt := 141) (by decide) (by decide) ?_
    refine k_ldcS hO rfl dX8_init_74 ?_
    refine k_iload hO dX8_init_76 0 rfl ?_
    refine k_charAt hO (k := 31) (v := 111) (Nat.le_of_ble_eq_true rfl) rfl rfl w305 (Nat.le_of_ble_eq_true rfl) (Nat.le_of_ble_eq_true rfl) (Nat.le_of_ble_eq_true rfl) (Nat.le_of_ble_eq_true rfl) (Nat.le_of_ble_eq_true rfl) dX8_init_78 ?_
    refine k_istore hO dX8_init_81 (by decide) (lv' := [(6, .int 111), (5, .int 31), (4, .int 1), (3, .int 20), (2, .int 5), (0, .ref h0), (1, .ref p1)]) rfl ?_
    refine k_iload hO dX8_init_83 0 rfl ?_
    refine k_bipush hO dX8_init_85 ic_b_32 ?_
    refine k_icmp_eqF (pc := 87) hO dX8_init_87 (tgt := 109) (by decide) (by decide) ?_
    refine k_bipush hO dX8_init_90 ic_b_27 ?_
    refine k_iload_n hO dX8_init_92 3 rfl rfl ?_
    refine k_imul hO dX8_init_93 (v := 540) (by decide) ?_
    refine k_iload hO dX8_init_94 0 rfl ?_
    refine k_iadd hO dX8_init_96 (v := 651) (by decide) ?_
    refine k_bipush hO dX8_init_97 ic_b_97 ?_
    refine k_isub hO dX8_init_99 (v := 554) (by decide) ?_
    refine k_iconst hO dX8_init_100 ic_i_1 ?_
    refine k_iadd hO dX8_init_101 (v := 555) (by decide) ?_
    refine k_istore_n hO dX8_init_102 rfl (by decide) (lv' := [(3, .int 555), (6, .int 111), (5, .int 31), (4, .int 1), (2, .int 5), (0, .ref h0), (1, .ref p1)]) rfl ?_
    refine k_iinc hO dX8_init_103 3 rfl (v := 2) (by decide) (by decide) (lv' := [(4, .int 2), (3, .int 555), (6, .int 111), (5, .int 31), (2, .int 5), (0, .ref h0), (1, .ref p1)]) rfl ?_
    refine k_goto (pc := 106) hO dX8_init_106 (tgt := 135) (by decide) ?_
    refine k_iinc hO dX8_init_135 3 rfl (v := 32) (by decide) (by decide) (lv' := [(5, .int 32), (4, .int 2), (3, .int 555), (6, .int 111), (2, .int 5), (0, .ref h0), (1, .ref p1)]) rfl ?_
    refine k_goto (pc := 138) hO dX8_init_138 (tgt := 64) (by decide) ?_
    refine k_iload hO dX8_init_64 0 rfl ?_
    refine k_ldcS hO rfl dX8_init_66 ?_
    refine k_strlen hO w295 (Nat.le_of_ble_eq_true rfl) (Nat.le_of_ble_eq_true rfl) (Nat.le_of_ble_eq_true rfl) (Nat.le_of_ble_eq_true rfl) (Nat.le_of_ble_eq_true rfl) dX8_init_68 ?_
    refine k_icmp_geF (pc := 71) hO dX8_init_71 (tgt := 141) (by decide) (by decide) ?_
    refine k_ldcS hO rfl dX8_init_74 ?_
    refine k_iload hO dX8_init_76 0 rfl ?_
    refine k_charAt hO (k := 32) (v := 32) (Nat.le_of_ble_eq_true rfl) rfl rfl w305 (Nat.le_of_ble_eq_true rfl) (Nat.le_of_ble_eq_true rfl) (Nat.le_of_ble_eq_true rfl) (Nat.le_of_ble_eq_true rfl) (Nat.le_of_ble_eq_true rfl) dX8_init_78 ?_
    refine k_istore hO dX8_init_81 (by decide) (lv' := [(6, .int 32), (5, .int 32), (4, .int 2), (3, .int 555), (2, .int 5), (0, .ref h0), (1, .ref p1)]) rfl ?_
    refine k_iload hO dX8_init_83 0 rfl ?_
    refine k_bipush hO dX8_init_85 ic_b_32 ?_
    refine k_icmp_eqT (pc := 87) hO dX8_init_87 (tgt := 109) (by decide) (by decide) ?_
    refine k_iload_n hO dX8_init_109 4 rfl rfl ?_
    refine k_bipush hO dX8_init_110 ic_b_25 ?_
    refine k_icmp_geF (pc := 112) hO dX8_init_112 (tgt := 135) (by decide) (by decide) ?_
    refine k_aload_n hO dX8_init_115 5 rfl rfl ?_
    refine k_get hO flX8_11 0 rfl (v := .ref q7) rfl dX8_init_116 ?_
    refine k_iload_n hO dX8_init_119 4 rfl rfl ?_
    refine k_iload_n hO dX8_init_120 3 rfl rfl ?_
    refine k_iload hO dX8_init_121 2 rfl ?_
    refine k_fill hO fu_555_2 w343 (Nat.le_of_ble_eq_true rfl) (Nat.le_of_ble_eq_true rfl) (Nat.le_of_ble_eq_true rfl) (Nat.le_of_ble_eq_true rfl) (Nat.le_of_ble_eq_true rfl) dX8_init_123 ?_
    refine k_iast hO 1 rfl (by decide) (k := 5) (by decide) (ws' := [(h0, .inr (8, [.ref p1, .ref q7, .int 259, .int 0, .int 0, .int 0, .int 0, .int 0, .int (-1)])), (q7, .inl (cy 0, 25, .inl (upd (upd (upd (upd (upd (upd (fun _ => 0) 0 291417210) 1 332864532) 2 173107395) 3 51382989) 4 266274540) 5 294949755)))]) rfl dX8_init_126 ?_
    refine k_iinc hO dX8_init_127 4 rfl (v := 6) (by decide) (by decide) (lv' := [(2, .int 6), (6, .int 32), (5, .int 32), (4, .int 2), (3, .int 555), (0, .ref h0), (1, .ref p1)]) rfl ?_
    refine k_iconst hO dX8_init_130 ic_i_0 ?_
    refine k_istore_n hO dX8_init_131 rfl (by decide) (lv' := [(3, .int 0), (2, .int 6), (6, .int 32), (5, .int 32), (4, .int 2), (0, .ref h0), (1, .ref p1)]) rfl ?_
    refine k_iconst hO dX8_init_132 ic_i_0 ?_
    refine k_istore hO dX8_init_133 (by decide) (lv' := [(4, .int 0), (3, .int 0), (2, .int 6), (6, .int 32), (5, .int 32), (0, .ref h0), (1, .ref p1)]) rfl ?_
    refine k_iinc hO dX8_init_135 4 rfl (v := 33) (by decide) (by decide) (lv' := [(5, .int 33), (4, .int 0), (3, .int 0), (2, .int 6), (6, .int 32), (0, .ref h0), (1, .ref p1)]) rfl ?_
    refine k_goto (pc := 138) hO dX8_init_138 (tgt := 64) (by decide) ?_
    refine k_iload hO dX8_init_64 0 rfl ?_
    refine k_ldcS hO rfl dX8_init_66 ?_
    refine k_strlen hO w295 (Nat.le_of_ble_eq_true rfl) (Nat.le_of_ble_eq_true rfl) (Nat.le_of_ble_eq_true rfl) (Nat.le_of_ble_eq_true rfl) (Nat.le_of_ble_eq_true rfl) dX8_init_68 ?_
    refine k_icmp_geF (pc := 71) hO dX8_init_71 (tgt := 141) (by decide) (by decide) ?_
    refine k_ldcS hO rfl dX8_init_74 ?_
    refine k_iload hO dX8_init_76 0 rfl ?_
    refine k_charAt hO (k := 33) (v := 115) (Nat.le_of_ble_eq_true rfl) rfl rfl w305 (Nat.le_of_ble_eq_true rfl) (Nat.le_of_ble_eq_true rfl) (Nat.le_of_ble_eq_true rfl) (Nat.le_of_ble_eq_true rfl) (Nat.le_of_ble_eq_true rfl) dX8_init_78 ?_
    refine k_istore hO dX8_init_81 (by decide) (lv' := [(6, .int 115), (5, .int 33), (4, .int 0), (3, .int 0), (2, .int 6), (0, .ref h0), (1, .ref p1)]) rfl ?_
    refine k_iload hO dX8_init_83 0 rfl ?_
    refine k_bipush hO dX8_init_85 ic_b_32 ?_
    refine k_icmp_eqF (pc := 87) hO dX8_init_87 (tgt := 109) (by decide) (by decide) ?_
    refine k_bipush hO dX8_init_90 ic_b_27 ?_
    refine k_iload_n hO dX8_init_92 3 rfl rfl ?_
    refine k_imul hO dX8_init_93 (v := 0) (by decide) ?_
    refine k_iload hO dX8_init_94 0 rfl ?_
    refine k_iadd hO dX8_init_96 (v := 115) (by decide) ?_
    refine k_bipush hO dX8_init_97 ic_b_97 ?_
    refine k_isub hO dX8_init_99 (v := 18) (by decide) ?_
    refine k_iconst hO dX8_init_100 ic_i_1 ?_
    refine k_iadd hO dX8_init_101 (v := 19) (by decide) ?_
    refine k_istore_n hO dX8_init_102 rfl (by decide) (lv' := [(3, .int 19), (6, .int 115), (5, .int 33), (4, .int 0), (2, .int 6), (0, .ref h0), (1, .ref p1)]) rfl ?_
    refine k_iinc hO dX8_init_103 3 rfl (v := 1) (by decide) (by decide) (lv' := [(4, .int 1), (3, .int 19), (6, .int 115), (5, .int 33), (2, .int 6), (0, .ref h0), (1, .ref p1)]) rfl ?_
    refine k_goto (pc := 106) hO dX8_init_106 (tgt := 135) (by decide) ?_
    refine k_iinc hO dX8_init_135 3 rfl (v := 34) (by decide) (by decide) (lv' := [(5, .int 34), (4, .int 1), (3, .int 19), (6, .int 115), (2, .int 6), (0, .ref h0), (1, .ref p1)]) rfl ?_
    refine k_goto (pc := 138) hO dX8_init_138 (tgt := 64) (by decide) ?_
    refine k_iload hO dX8_init_64 0 rfl ?_
    refine k_ldcS hO rfl dX8_init_66 ?_
    refine k_strlen hO w295 (Nat.le_of_ble_eq_true rfl) (Nat.le_of_ble_eq_true rfl) (Nat.le_of_ble_eq_true rfl) (Nat.le_of_ble_eq_true rfl) (Nat.le_of_ble_eq_true rfl) dX8_init_68 ?_
    refine k_icmp_geF (pc := 71) hO dX8_init_71 (tgt := 141) (by decide) (by decide) ?_
    refine k_ldcS hO rfl dX8_init_74 ?_
    refine k_iload hO dX8_init_76 0 rfl ?_
    refine k_charAt hO (k := 34) (v := 116) (Nat.le_of_ble_eq_true rfl) rfl rfl w305 (Nat.le_of_ble_eq_true rfl) (Nat.le_of_ble_eq_true rfl) (Nat.le_of_ble_eq_true rfl) (Nat.le_of_ble_eq_true rfl) (Nat.le_of_ble_eq_true rfl) dX8_init_78 ?_
    refine k_istore hO dX8_init_81 (by decide) (lv' := [(6, .int 116), (5, .int 34), (4, .int 1), (3, .int 19), (2, .int 6), (0, .ref h0), (1, .ref p1)]) rfl ?_
    refine k_iload hO dX8_init_83 0 rfl ?_
    refine k_bipush hO dX8_init_85 ic_b_32 ?_
    refine k_icmp_eqF (pc := 87) hO dX8_init_87 (tgt := 109) (by decide) (by decide) ?_
    refine k_bipush hO dX8_init_90 ic_b_27 ?_
    refine k_iload_n hO dX8_init_92 3 rfl rfl ?_
    refine k_imul hO dX8_init_93 (v := 513) (by decide) ?_
    refine k_iload hO dX8_init_94 0 rfl ?_
    refine k_iadd hO dX8_init_96 (v := 629) (by decide) ?_
    refine k_bipush hO dX8_init_97 ic_b_97 ?_
    refine k_isub hO dX8_init_99 (v := 532) (by decide) ?_
    refine k_iconst hO dX8_init_100 ic_i_1 ?_
    refine k_iadd hO dX8_init_101 (v := 533) (by decide) ?_
    refine k_istore_n hO dX8_init_102 rfl (by decide) (lv' := [(3, .int 533), (6, .int 116), (5, .int 34), (4, .int 1), (2, .int 6), (0, .ref h0), (1, .ref p1)]) rfl ?_
    refine k_iinc hO dX8_init_103 3 rfl (v := 2) (by decide) (by decide) (lv' := [(4, .int 2), (3, .int 533), (6, .int 116), (5, .int 34), (2, .int 6), (0, .ref h0), (1, .ref p1)]) rfl ?_
    refine k_goto (pc := 106) hO dX8_init_106 (tgt := 135) (by decide) ?_
    refine k_iinc hO dX8_init_135 3 rfl (v := 35) (by decide) (by decide) (lv' := [(5, .int 35), (4, .int 2), (3, .int 533), (6, .int 116), (2, .int 6), (0, .ref h0), (1, .ref p1)]) rfl ?_
    refine k_goto (pc := 138) hO dX8_init_138 (tgt := 64) (by decide) ?_
    refine k_iload hO dX8_init_64 0 rfl ?_
    refine k_ldcS hO rfl dX8_init_66 ?_
    refine k_strlen hO w295 (Nat.le_of_ble_eq_true rfl) (Nat.le_of_ble_eq_true rfl) (Nat.le_of_ble_eq_true rfl) (Nat.le_of_ble_eq_true rfl) (Nat.le_of_ble_eq_true rfl) dX8_init_68 ?_
    refine k_icmp_geF (pc := 71) hO dX8_init_71 (tgt := 141) (by decide) (by decide) ?_
    refine k_ldcS hO rfl dX8_init_74 ?_
    refine k_iload hO dX8_init_76 0 rfl ?_
    refine k_charAt hO (k := 35) (v := 101) (Nat.le_of_ble_eq_true rfl) rfl rfl w305 (Nat.le_of_ble_eq_true rfl) (Nat.le_of_ble_eq_true rfl) (Nat.le_of_ble_eq_true rfl) (Nat.le_of_ble_eq_true rfl) (Nat.le_of_ble_eq_true rfl) dX8_init_78 ?_
    refine k_istore hO dX8_init_81 (by decide) (lv' := [(6, .int 101), (5, .int 35), (4, .int 2), (3, .int 533), (2, .int 6), (0, .ref h0), (1, .ref p1)]) rfl ?_
    refine k_iload hO dX8_init_83 0 rfl ?_
    refine k_bipush hO dX8_init_85 ic_b_32 ?_
    refine k_icmp_eqF (pc := 87) hO dX8_init_87 (tgt := 109) (by decide) (by decide) ?_
    refine k_bipush hO dX8_init_90 ic_b_27 ?_
    refine k_iload_n hO dX8_init_92 3 rfl rfl ?_
    refine k_imul hO dX8_init_93 (v := 14391) (by decide) ?_
    refine k_iload hO dX8_init_94 0 rfl ?_
    refine k_iadd hO dX8_init_96 (v := 14492) (by decide) ?_
    refine k_bipush hO dX8_init_97 ic_b_97 ?_
    refine k_isub hO dX8_init_99 (v := 14395) (by decide) ?_
    refine k_iconst hO dX8_init_100 ic_i_1 ?_
    refine k_iadd hO dX8_init_101 (v := 14396) (by decide) ?_
    refine k_istore_n hO dX8_init_102 rfl (by decide) (lv' := [(3, .int 14396), (6, .int 101), (5, .int 35), (4, .int 2), (2, .int 6), (0, .ref h0), (1, .ref p1)]) rfl ?_
    refine k_iinc hO dX8_init_103 3 rfl (v := 3) (by decide) (by decide) (lv' := [(4, .int 3), (3, .int 14396), (6, .int 101), (5, .int 35), (2, .int 6), (0, .ref h0), (1, .ref p1)]) rfl ?_
    refine k_goto (pc := 106) hO dX8_init_106 (tgt := 135) (by decide) ?_
    refine k_iinc hO dX8_init_135 3 rfl (v := 36) (by decide) (by decide) (lv' := [(5, .int 36), (4, .int 3), (3, .int 14396), (6, .int 101), (2, .int 6), (0, .ref h0), (1, .ref p1)]) rfl ?_
    refine k_goto (pc := 138) hO dX8_init_138 (tgt := 64) (by decide) ?_
    refine k_iload hO dX8_init_64 0 rfl ?_
    refine k_ldcS hO rfl dX8_init_66 ?_
    refine k_strlen hO w295 (Nat.le_of_ble_eq_true rfl) (Nat.le_of_ble_eq_true rfl) (Nat.le_of_ble_eq_true rfl) (Nat.le_of_ble_eq_true rfl) (Nat.le_of_ble_eq_true rfl) dX8_init_68 ?_
    refine k_icmp_geF (pc := 71) hO dX8_init_71 (tgt := 141) (by decide) (by decide) ?_
    refine k_ldcS hO rfl dX8_init_74 ?_
    refine k_iload hO dX8_init_76 0 rfl ?_
    refine k_charAt hO (k := 36) (v := 112) (Nat.le_of_ble_eq_true rfl) rfl rfl w305 (Nat.le_of_ble_eq_true rfl) (Nat.le_of_ble_eq_true rfl) (Nat.le_of_ble_eq_true rfl) (Nat.le_of_ble_eq_true rfl) (Nat.le_of_ble_eq_true rfl) dX8_init_78 ?_
    refine k_istore hO dX8_init_81 (by decide) (lv' := [(6, .int 112), (5, .int 36), (4, .int 3), (3, .int 14396), (2, .int 6), (0, .ref h0), (1, .ref p1)]) rfl ?_
    refine k_iload hO dX8_init_83 0 rfl ?_
    refine k_bipush hO dX8_init_85 ic_b_32 ?_
    refine k_icmp_eqF (pc := 87) hO dX8_init_87 (tgt := 109) (by decide) (by decide) ?_
    refine k_bipush hO dX8_init_90 ic_b_27 ?_
    refine k_iload_n hO dX8_init_92 3 rfl rfl ?_
    refine k_imul hO dX8_init_93 (v := 388692) (by decide) ?_
    refine k_iload hO dX8_init_94 0 rfl ?_
    refine k_iadd hO dX8_init_96 (v := 388804) (by decide) ?_
    refine k_bipush hO dX8_init_97 ic_b_97 ?_
    refine k_isub hO dX8_init_99 (v := 388707) (by decide) ?_
    refine k_iconst hO dX8_init_100 ic_i_1 ?_
    refine k_iadd hO dX8_init_101 (v := 388708) (by decide) ?_
    refine k_istore_n hO dX8_init_102 rfl (by decide) (lv' := [(3, .int 388708), (6, .int 112), (5, .int 36), (4, .int 3), (2, .int 6), (0, .ref h0), (1, .ref p1)]) rfl ?_
    refine k_iinc hO dX8_init_103 3 rfl (v := 4) (by decide) (by decide) (lv' := [(4, .int 4), (3, .int 388708), (6, .int 112), (5, .int 36), (2, .int 6), (0, .ref h0), (1, .ref p1)]) rfl ?_
    refine k_goto (pc := 106) hO dX8_init_106 (tgt := 135) (by decide) ?_
    refine k_iinc hO dX8_init_135 3 rfl (v := 37) (by decide) (by decide) (lv' := [(5, .int 37), (4, .int 4), (3, .int 388708), (6, .int 112), (2, .int 6), (0, .ref h0), (1, .ref p1)]) rfl ?_
    refine k_goto (pc := 138) hO dX8_init_138 (tgt := 64) (by decide) ?_
    refine k_iload hO dX8_init_64 0 rfl ?_
    refine k_ldcS hO rfl dX8_init_66 ?_
    refine k_strlen hO w295 (Nat.le_of_ble_eq_true rfl) (Nat.le_of_ble_eq_true rfl) (Nat.le_of_ble_eq_true rfl) (Nat.le_of_ble_eq_true rfl) (Nat.le_of_ble_eq_true rfl) dX8_init_68 ?_
    refine k_icmp_geF (pc := 71) hO dX8_init_71 (tgt := 141) (by decide) (by decide) ?_
    refine k_ldcS hO rfl dX8_init_74 ?_
    refine k_iload hO dX8_init_76 0 rfl ?_
    refine k_charAt hO (k := 37) (v := 115) (Nat.le_of_ble_eq_true rfl) rfl rfl w305 (Nat.le_of_ble_eq_true rfl) (Nat.le_of_ble_eq_true rfl) (Nat.le_of_ble_eq_true rfl) (Nat.le_of_ble_eq_true rfl) (Nat.le_of_ble_eq_true rfl) dX8_init_78 ?_
    refine k_istore hO dX8_init_81 (by decide) (lv' := [(6, .int 115), (5, .int 37), (4, .int 4), (3, .int 388708), (2, .int 6), (0, .ref h0), (1, .ref p1)]) rfl ?_
    refine k_iload hO dX8_init_83 0 rfl ?_
    refine k_bipush hO dX8_init_85 ic_b_32 ?_
    refine k_icmp_eqF (pc := 87) hO dX8_init_87 (tgt := 109) (by decide) (by decide) ?_
    refine k_bipush hO dX8_init_90 ic_b_27 ?_
    refine k_iload_n hO dX8_init_92 3 rfl rfl ?_
    refine k_imul hO dX8_init_93 (v := 10495116) (by decide) ?_
    refine k_iload hO dX8_init_94 0 rfl ?_
    refine k_iadd hO dX8_init_96 (v := 10495231) (by decide) ?_
    refine k_bipush hO dX8_init_97 ic_b_97 ?_
    refine k_isub hO dX8_init_99 (v := 10495134) (by decide) ?_
    refine k_iconst hO dX8_init_100 ic_i_1 ?_
    refine k_iadd hO dX8_init_101 (v := 10495135) (by decide) ?_
    refine k_istore_n hO dX8_init_102 rfl (by decide) (lv' := [(3, .int 10495135), (6, .int 115), (5, .int 37), (4, .int 4), (2, .int 6), (0, .ref h0), (1, .ref p1)]) rfl ?_
    refine k_iinc hO dX8_init_103 3 rfl (v := 5) (by decide) (by decide) (lv' := [(4, .int 5), (3, .int 10495135), (6, .int 115), (5, .int 37), (2, .int 6), (0, .ref h0), (1, .ref p1)]) rfl ?_
    refine k_goto (pc := 106) hO dX8_init_106 (tgt := 135) (by decide) ?_
    refine k_iinc hO dX8_init_135 3 rfl (v := 38) (by decide) (by decide) (lv' := [(5, .int 38), (4, .int 5), (3, .int 10495135), (6, .int 115), (2, .int 6), (0, .ref h0), (1, .ref p1)]) rfl ?_
    refine k_goto (pc := 138) hO dX8_init_138 (tgt := 64) (by decide) ?_
    refine k_iload hO dX8_init_64 0 rfl ?_
    refine k_ldcS hO rfl dX8_init_66 ?_
    refine k_strlen hO w295 (Nat.le_of_ble_eq_true rfl) (Nat.le_of_ble_eq_true rfl) (Nat.le_of_ble_eq_true rfl) (Nat.le_of_ble_eq_true rfl) (Nat.le_of_ble_eq_true rfl) dX8_init_68 ?_
    refine k_icmp_geF (pc := 71) hO dX8_init_71 (tgt := 141) (by decide) (by decide) ?_
    refine k_ldcS hO rfl dX8_init_74 ?_
    refine k_iload hO dX8_init_76 0 rfl ?_
    refine k_charAt hO (k := 38) (v := 32) (Nat.le_of_ble_eq_true rfl) rfl rfl w305 (Nat.le_of_ble_eq_true rfl) (Nat.le_of_ble_eq_true rfl) (Nat.le_of_ble_eq_true rfl) (Nat.le_of_ble_eq_true rfl) (Nat.le_of_ble_eq_true rfl) dX8_init_78 ?_
    refine k_istore hO dX8_init_81 (by decide) (lv' := [(6, .int 32), (5, .int 38), (4, .int 5), (3, .int 10495135), (2, .int 6), (0, .ref h0), (1, .ref p1)]) rfl ?_
    refine k_iload hO dX8_init_83 0 rfl ?_
    refine k_bipush hO dX8_init_85 ic_b_32 ?_
    refine k_icmp_eqT (pc := 87) hO dX8_init_87 (tgt := 109) (by decide) (by decide) ?_
    refine k_iload_n hO dX8_init_109 4 rfl rfl ?_
    refine k_bipush hO dX8_init_110 ic_b_25 ?_
    refine k_icmp_geF (pc := 112) hO dX8_init_112 (tgt := 135) (by decide) (by decide) ?_
    refine k_aload_n hO dX8_init_115 5 rfl rfl ?_
    refine k_get hO flX8_11 0 rfl (v := .ref q7) rfl dX8_init_116 ?_
    refine k_iload_n hO dX8_init_119 4 rfl rfl ?_
    refine k_iload_n hO dX8_init_120 3 rfl rfl ?_
    refine k_iload hO dX8_init_121 2 rfl ?_
    refine k_fill hO fu_10495135_5 w343 (Nat.le_of_ble_eq_true rfl) (Nat.le_of_ble_eq_true rfl) (Nat.le_of_ble_eq_true rfl) (Nat.le_of_ble_eq_true rfl) (Nat.le_of_ble_eq_true rfl) dX8_init_123 ?_
    refine k_iast hO 1 rfl (by decide) (k := 6) (by decide) (ws' := [(h0, .inr (8, [.ref p1, .ref q7, .int 259, .int 0, .int 0, .int 0, .int 0, .int 0, .int (-1)])), (q7, .inl (cy 0, 25, .inl (upd (upd (upd (upd (upd (upd (upd (fun _ => 0) 0 291417210) 1 332864532) 2 173107395) 3 51382989) 4 266274540) 5 294949755) 6 283368645)))]) rfl dX8_init_126 ?_
    refine k_iinc hO dX8_init_127 4 rfl (v := 7) (by decide) (by decide) (lv' := [(2, .int 7), (6, .int 32), (5, .int 38), (4, .int 5), (3, .int 10495135), (0, .ref h0), (1, .ref p1)]) rfl ?_
    refine k_iconst hO dX8_init_130 ic_i_0 ?_
    refine k_istore_n hO dX8_init_131 rfl (by decide) (lv' := [(3, .int 0), (2, .int 7), (6, .int 32), (5, .int 38), (4, .int 5), (0, .ref h0), (1, .ref p1)]) rfl ?_
    refine k_iconst hO dX8_init_132 ic_i_0 ?_
    refine k_istore hO dX8_init_133 (by decide) (lv' := [(4, .int 0), (3, .int 0), (2, .int 7), (6, .int 32), (5, .int 38), (0, .ref h0), (1, .ref p1)]) rfl ?_
    refine k_iinc hO dX8_init_135 4 rfl (v := 39) (by decide) (by decide) (lv' := [(5, .int 39), (4, .int 0), (3, .int 0), (2, .int 7), (6, .int 32), (0, .ref h0), (1, .ref p1)]) rfl ?_
    refine k_goto (pc := 138) hO dX8_init_138 (tgt := 64) (by decide) ?_
    refine k_iload hO dX8_init_64 0 rfl ?_
    refine k_ldcS hO rfl dX8_init_66 ?_
    refine k_strlen hO w295 (Nat.le_of_ble_eq_true rfl) (Nat.le_of_ble_eq_true rfl) (Nat.le_of_ble_eq_true rfl) (Nat.le_of_ble_eq_true rfl) (Nat.le_of_ble_eq_true rfl) dX8_init_68 ?_
    refine k_icmp_geF (pc := 71) hO dX8_init_71 (tgt := 141) (by decide) (by decide) ?_
    refine k_ldcS hO rfl dX8_init_74 ?_
    refine k_iload hO dX8_init_76 0 rfl ?_
    refine k_charAt hO (k := 39) (v := 112) (Nat.le_of_ble_eq_true rfl) rfl rfl w305 (Nat.le_of_ble_eq_true rfl) (Nat.le_of_ble_eq_true rfl) (Nat.le_of_ble_eq_true rfl) (Nat.le_of_ble_eq_true rfl) (Nat.le_of_ble_eq_true rfl) dX8_init_78 ?_
    refine k_istore hO dX8_init_81 (by decide) (lv' := [(6, .int 112), (5, .int 39), (4, .int 0), (3, .int 0), (2, .int 7), (0, .ref h0), (1, .ref p1)]) rfl ?_
    refine k_iload hO dX8_init_83 0 rfl ?_
    refine k_bipush hO dX8_init_85 ic_b_32 ?_
    refine k_icmp_eqF (pc := 87) hO dX8_init_87 (tgt := 109) (by decide) (by decide) ?_
    refine k_bipush hO dX8_init_90 ic_b_27 ?_
    refine k_iload_n hO dX8_init_92 3 rfl rfl ?_
    refine k_imul hO dX8_init_93 (v := 0) (by decide) ?_
    refine k_iload hO dX8_init_94 0 rfl ?_
    refine k_iadd hO dX8_init_96 (v := 112) (by decide) ?_
    refine k_bipush hO dX8_init_97 ic_b_97 ?_
    refine k_isub hO dX8_init_99 (v := 15) (by decide) ?_
    refine k_iconst hO dX8_init_100 ic_i_1 ?_
    refine k_iadd hO dX8_init_101 (v := 16) (by decide) ?_
    refine k_istore_n hO dX8_init_102 rfl (by decide) (lv' := [(3, .int 16), (6, .int 112), (5, .int 39), (4, .int 0), (2, .int 7), (0, .ref h0), (1, .ref p1)]) rfl ?_
    refine k_iinc hO dX8_init_103 3 rfl (v := 1) (by decide) (by decide) (lv' := [(4, .int 1), (3, .int 16), (6, .int 112), (5, .int 39), (2, .int 7), (0, .ref h0), (1, .ref p1)]) rfl ?_
    refine k_goto (pc := 106) hO dX8_init_106 (tgt := 135) (by decide) ?_
    refine k_iinc hO dX8_init_135 3 rfl (v := 40) (by decide) (by decide) (lv' := [(5, .int 40), (4, .int 1), (3, .int 16), (6, .int 112), (2, .int 7), (0, .ref h0), (1, .ref p1)]) rfl ?_
    refine k_goto (pc := 138) hO dX8_init_138 (tgt := 64) (by decide) ?_
    refine k_iload hO dX8_init_64 0 rfl ?_
    refine k_ldcS hO rfl dX8_init_66 ?_
    refine k_strlen hO w295 (Nat.le_of_ble_eq_true rfl) (Nat.le_of_ble_eq_true rfl) (Nat.le_of_ble_eq_true rfl) (Nat.le_of_ble_eq_true rfl) (Nat.le_of_ble_eq_true rfl) dX8_init_68 ?_
    refine k_icmp_geF (pc := 71) hO dX8_init_71 (tgt := 141) (by decide) (by decide) ?_
    refine k_ldcS hO rfl dX8_init_74 ?_
    refine k_iload hO dX8_init_76 0 rfl ?_
    refine k_charAt hO (k := 40) (v := 97) (Nat.le_of_ble_eq_true rfl) rfl rfl w305 (Nat.le_of_ble_eq_true rfl) (Nat.le_of_ble_eq_true rfl) (Nat.le_of_ble_eq_true rfl) (Nat.le_of_ble_eq_true rfl) (Nat.le_of_ble_eq_true rfl) dX8_init_78 ?_
    refine k_istore hO dX8_init_81 (by decide) (lv' := [(6, .int 97), (5, .int 40), (4, .int 1), (3, .int 16), (2, .int 7), (0, .ref h0), (1, .ref p1)]) rfl ?_
    refine k_iload hO dX8_init_83 0 rfl ?_
    refine k_bipush hO dX8_init_85 ic_b_32 ?_
    refine k_icmp_eqF (pc := 87) hO dX8_init_87 (tgt := 109) (by decide) (by decide) ?_
    refine k_bipush hO dX8_init_90 ic_b_27 ?_
    refine k_iload_n hO dX8_init_92 3 rfl rfl ?_
    refine k_imul hO dX8_init_93 (v := 432) (by decide) ?_
    refine k_iload hO dX8_init_94 0 rfl ?_
    refine k_iadd hO dX8_init_96 (v := 529) (by decide) ?_
    refine k_bipush hO dX8_init_97 ic_b_97 ?_
    refine k_isub hO dX8_init_99 (v := 432) (by decide) ?_
    refine k_iconst hO dX8_init_100 ic_i_1 ?_
    refine k_iadd hO dX8_init_101 (v := 433) (by decide) ?_
    refine k_istore_n hO dX8_init_102 rfl (by decide) (lv' := [(3, .int 433), (6, .int 97), (5, .int 40), (4, .int 1), (2, .int 7), (0, .ref h0), (1, .ref p1)]) rfl ?_
    refine k_iinc hO dX8_init_103 3 rfl (v := 2) (by decide) (by decide) (lv' := [(4, .int 2), (3, .int 433), (6, .int 97), (5, .int 40), (2, .int 7), (0, .ref h0), (1, .ref p1)]) rfl ?_
    refine k_goto (pc := 106) hO dX8_init_106 (tgt := 135) (by decide) ?_
    refine k_iinc hO dX8_init_135 3 rfl (v := 41) (by decide) (by decide) (lv' := [(5, .int 41), (4, .int 2), (3, .int 433), (6, .int 97), (2, .int 7), (0, .ref h0), (1, .ref p1)]) rfl ?_
    refine k_goto (pc := 138) hO dX8_init_138 (tgt := 64) (by decide) ?_
    refine k_iload hO dX8_init_64 0 rfl ?_
    refine k_ldcS hO rfl dX8_init_66 ?_
    refine k_strlen hO w295 (Nat.le_of_ble_eq_true rfl) (Nat.le_of_ble_eq_true rfl) (Nat.le_of_ble_eq_true rfl) (Nat.le_of_ble_eq_true rfl) (Nat.le_of_ble_eq_true rfl) dX8_init_68 ?_
    refine k_icmp_geF (pc := 71) hO dX8_init_71 (tgt := 141) (by decide) (by decide) ?_
    refine k_ldcS hO rfl dX8_init_74 ?_
    refine k_iload hO dX8_init_76 0 rfl ?_
    refine k_charAt hO (k := 41) (v := 108) (Nat.le_of_ble_eq_true rfl) rfl rfl w305 (Nat.le_of_ble_eq_true rfl) (Nat.le_of_ble_eq_true rfl) (Nat.le_of_ble_eq_true rfl) (Nat.le_of_ble_eq_true rfl) (Nat.le_of_ble_eq_true rfl) dX8_init_78 ?_
    refine k_istore hO dX8_init_81 (by decide) (lv' := [(6, .int 108), (5, .int 41), (4, .int 2), (3, .int 433), (2, .int 7), (0, .ref h0), (1, .ref p1)]) rfl ?_
    refine k_iload hO dX8_init_83 0 rfl ?_
    refine k_bipush hO dX8_init_85 ic_b_32 ?_
    refine k_icmp_eqF (pc := 87) hO dX8_init_87 (tgt := 109) (by decide) (by decide) ?_
    refine k_bipush hO dX8_init_90 ic_b_27 ?_
    refine k_iload_n hO dX8_init_92 3 rfl rfl ?_
    refine k_imul hO dX8_init_93 (v := 11691) (by decide) ?_
    refine k_iload hO dX8_init_94 0 rfl ?_
    refine k_iadd hO dX8_init_96 (v := 11799) (by decide) ?_
    refine k_bipush hO dX8_init_97 ic_b_97 ?_
    refine k_isub hO dX8_init_99 (v := 11702) (by decide) ?_
    refine k_iconst hO dX8_init_100 ic_i_1 ?_
    refine k_iadd hO dX8_init_101 (v := 11703) (by decide) ?_
    refine k_istore_n hO dX8_init_102 rfl (by decide) (lv' := [(3, .int 11703), (6, .int 108), (5, .int 41), (4, .int 2), (2, .int 7), (0, .ref h0), (1, .ref p1)]) rfl ?_
    refine k_iinc hO dX8_init_103 3 rfl (v := 3) (by decide) (by decide) (lv' := [(4, .int 3), (3, .int 11703), (6, .int 108), (5, .int 41), (2, .int 7), (0, .ref h0), (1, .ref p1)]) rfl ?_
    refine k_goto (pc := 106) hO dX8_init_106 (tgt := 135) (by decide) ?_
    refine k_iinc hO dX8_init_135 3 rfl (v := 42) (by decide) (by decide) (lv' := [(5, .int 42), (4, .int 3), (3, .int 11703), (6, .int 108), (2, .int 7), (0, .ref h0), (1, .ref p1)]) rfl ?_
    refine k_goto (pc := 138) hO dX8_init_138 (tgt := 64) (by decide) ?_
    refine k_iload hO dX8_init_64 0 rfl ?_
    refine k_ldcS hO rfl dX8_init_66 ?_
    refine k_strlen hO w295 (Nat.le_of_ble_eq_true rfl) (Nat.le_of_ble_eq_true rfl) (Nat.le_of_ble_eq_true rfl) (Nat.le_of_ble_eq_true rfl) (Nat.le_of_ble_eq_true rfl) dX8_init_68 ?_
    refine k_icmp_geF (pc := 71) hO dX8_init_71 (tgt := 141) (by decide) (by decide) ?_
    refine k_ldcS hO rfl dX8_init_74 ?_
    refine k_iload hO dX8_init_76 0 rfl ?_
    refine k_charAt hO (k := 42) (v := 109) (Nat.le_of_ble_eq_true rfl) rfl rfl w305 (Nat.le_of_ble_eq_true rfl) (Nat.le_of_ble_eq_true rfl) (Nat.le_of_ble_eq_true rfl) (Nat.le_of_ble_eq_true rfl) (Nat.le_of_ble_eq_true rfl) dX8_init_78 ?_
    refine k_istore hO dX8_init_81 (by decide) (lv' := [(6, .int 109), (5, .int 42), (4, .int 3), (3, .int 11703), (2, .int 7), (0, .ref h0), (1, .ref p1)]) rfl ?_
    refine k_iload hO dX8_init_83 0 rfl ?_
    refine k_bipush hO dX8_init_85 ic_b_32 ?_
    refine k_icmp_eqF (pc := 87) hO dX8_init_87 (tgt := 109) (by decide) (by decide) ?_
    refine k_bipush hO dX8_init_90 ic_b_27 ?_
    refine k_iload_n hO dX8_init_92 3 rfl rfl ?_
    refine k_imul hO dX8_init_93 (v := 315981) (by decide) ?_
    refine k_iload hO dX8_init_94 0 rfl ?_
    refine k_iadd hO dX8_init_96 (v := 316090) (by decide) ?_
    refine k_bipush hO dX8_init_97 ic_b_97 ?_
    refine k_isub hO dX8_init_99 (v := 315993) (by decide) ?_
    refine k_iconst hO dX8_init_100 ic_i_1 ?_
    refine k_iadd hO dX8_init_101 (v := 315994) (by decide) ?_
    refine k_istore_n hO dX8_init_102 rfl (by decide) (lv' := [(3, .int 315994), (6, .int 109), (5, .int 42), (4, .int 3), (2, .int 7), (0, .ref h0), (1, .ref p1)]) rfl ?_
    refine k_iinc hO dX8_init_103 3 rfl (v := 4) (by decide) (by decide) (lv' := [(4, .int 4), (3, .int 315994), (6, .int 109), (5, .int 42), (2, .int 7), (0, .ref h0), (1, .ref p1)]) rfl ?_
    refine k_goto (pc := 106) hO dX8_init_106 (tgt := 135) (by decide) ?_
    refine k_iinc hO dX8_init_135 3 rfl (v := 43) (by decide) (by decide) (lv' := [(5, .int 43), (4, .int 4), (3, .int 315994), (6, .int 109), (2, .int 7), (0, .ref h0), (1, .ref p1)]) rfl ?_
    refine k_goto (pc := 138) hO dX8_init_138 (tgt := 64) (by decide) ?_
    refine k_iload hO dX8_init_64 0 rfl ?_
    refine k_ldcS hO rfl dX8_init_66 ?_
    refine k_strlen hO w295 (Nat.le_of_ble_eq_true rfl) (Nat.le_of_ble_eq_true rfl) (Nat.le_of_ble_eq_true rfl) (Nat.le_of_ble_eq_true rfl) (Nat.le_of_ble_eq_true rfl) dX8_init_68 ?_
    refine k_icmp_geF (pc := 71) hO dX8_init_71 (tgt := 141) (by decide) (by decide) ?_
    refine k_ldcS hO rfl dX8_init_74 ?_
    refine k_iload hO dX8_init_76 0 rfl ?_
    refine k_charAt hO (k := 43) (v := 32) (Nat.le_of_ble_eq_true rfl) rfl rfl w305 (Nat.le_of_ble_eq_true rfl) (Nat.le_of_ble_eq_true rfl) (Nat.le_of_ble_eq_true rfl) (Nat.le_of_ble_eq_true rfl) (Nat.le_of_ble_eq_true rfl) dX8_init_78 ?_
    refine k_istore hO dX8_init_81 (by decide) (lv' := [(6, .int 32), (5, .int 43), (4, .int 4), (3, .int 315994), (2, .int 7), (0, .ref h0), (1, .ref p1)]) rfl ?_
    refine k_iload hO dX8_init_83 0 rfl ?_
    refine k_bipush hO dX8_init_85 ic_b_32 ?_
    refine k_icmp_eqT (pc := 87) hO dX8_init_87 (tgt := 109) (by decide) (by decide) ?_
    refine k_iload_n hO dX8_init_109 4 rfl rfl ?_
    refine k_bipush hO dX8_init_110 ic_b_25 ?_
    refine k_icmp_geF (pc := 112) hO dX8_init_112 (tgt := 135) (by decide) (by decide) ?_
    refine k_aload_n hO dX8_init_115 5 rfl rfl ?_
    refine k_get hO flX8_11 0 rfl (v := .ref q7) rfl dX8_init_116 ?_
    refine k_iload_n hO dX8_init_119 4 rfl rfl ?_
    refine k_iload_n hO dX8_init_120 3 rfl rfl ?_
    refine k_iload hO dX8_init_121 2 rfl ?_
    refine k_fill hO fu_315994_4 w343 (Nat.le_of_ble_eq_true rfl) (Nat.le_of_ble_eq_true rfl) (Nat.le_of_ble_eq_true rfl) (Nat.le_of_ble_eq_true rfl) (Nat.le_of_ble_eq_true rfl) dX8_init_123 ?_
    refine k_iast hO 1 rfl (by decide) (k := 7) (by decide) (ws' := [(h0, .inr (8, [.ref p1, .ref q7, .int 259, .int 0, .int 0, .int 0, .int 0, .int 0, .int (-1)])), (q7, .inl (cy 0, 25, .inl (upd (upd (upd (upd (upd (upd (upd (upd (fun _ => 0) 0 291417210) 1 332864532) 2 173107395) 3 51382989) 4 266274540) 5 294949755) 6 283368645) 7 230359626)))]) rfl dX8_init_126 ?_
    refine k_iinc hO dX8_init_127 4 rfl (v := 8) (by decide) (by decide) (lv' := [(2, .int 8), (6, .int 32), (5, .int 43), (4, .int 4), (3, .int 315994), (0, .ref h0), (1, .ref p1)]) rfl ?_
    refine k_iconst hO dX8_init_130 ic_i_0 ?_
    refine k_istore_n hO dX8_init_131 rfl (by decide) (lv' := [(3, .int 0), (2, .int 8), (6, .int 32), (5, .int 43), (4, .int 4), (0, .ref h0), (1, .ref p1)]) rfl ?_
    refine k_iconst hO dX8_init_132 ic_i_0 ?_
    refine k_istore hO dX8_init_133 (by decide) (lv' := [(4, .int 0), (3, .int 0), (2, .int 8), (6, .int 32), (5, .int 43), (0, .ref h0), (1, .ref p1)]) rfl ?_
    refine k_iinc hO dX8_init_135 4 rfl (v := 44) (by decide) (by decide) (lv' := [(5, .int 44), (4, .int 0), (3, .int 0), (2, .int 8), (6, .int 32), (0, .ref h0), (1, .ref p1)]) rfl ?_
    refine k_goto (pc := 138) hO dX8_init_138 (tgt := 64) (by decide) ?_
    refine k_iload hO dX8_init_64 0 rfl ?_
    refine k_ldcS hO rfl dX8_init_66 ?_
    refine k_strlen hO w295 (Nat.le_of_ble_eq_true rfl) (Nat.le_of_ble_eq_true rfl) (Nat.le_of_ble_eq_true rfl) (Nat.le_of_ble_eq_true rfl) (Nat.le_of_ble_eq_true rfl) dX8_init_68 ?_
    refine k_icmp_geF (pc := 71) hO dX8_init_71 (tgt := 141) (by decide) (by decide) ?_
    refine k_ldcS hO rfl dX8_init_74 ?_
    refine k_iload hO dX8_init_76 0 rfl ?_
    refine k_charAt hO (k := 44) (v := 104) (Nat.le_of_ble_eq_true rfl) rfl rfl w305 (Nat.le_of_ble_eq_true rfl) (Nat.le_of_ble_eq_true rfl) (Nat.le_of_ble_eq_true rfl) (Nat.le_of_ble_eq_true rfl) (Nat.le_of_ble_eq_true rfl) dX8_init_78 ?_
    refine k_istore hO dX8_init_81 (by decide) (lv' := [(6, .int 104), (5, .int 44), (4, .int 0), (3, .int 0), (2, .int 8), (0, .ref h0), (1, .ref p1)]) rfl ?_
    refine k_iload hO dX8_init_83 0 rfl ?_
    refine k_bipush hO dX8_init_85 ic_b_32 ?_
    refine k_icmp_eqF (pc := 87) hO dX8_init_87 (tgt := 109) (by decide) (by decide) ?_
    refine k_bipush hO dX8_init_90 ic_b_27 ?_
    refine k_iload_n hO dX8_init_92 3 rfl rfl ?_
    refine k_imul hO dX8_init_93 (v := 0) (by decide) ?_
    refine k_iload hO dX8_init_94 0 rfl ?_
    refine k_iadd hO dX8_init_96 (v := 104) (by decide) ?_
    refine k_bipush hO dX8_init_97 ic_b_97 ?_
    refine k_isub hO dX8_init_99 (v := 7) (by decide) ?_
    refine k_iconst hO dX8_init_100 ic_i_1 ?_
    refine k_iadd hO dX8_init_101 (v := 8) (by decide) ?_
    refine k_istore_n hO dX8_init_102 rfl (by decide) (lv' := [(3, .int 8), (6, .int 104), (5, .int 44), (4, .int 0), (2, .int 8), (0, .ref h0), (1, .ref p1)]) rfl ?_
    refine k_iinc hO dX8_init_103 3 rfl (v := 1) (by decide) (by decide) (lv' := [(4, .int 1), (3, .int 8), (6, .int 104), (5, .int 44), (2, .int 8), (0, .ref h0), (1, .ref p1)]) rfl ?_
    refine k_goto (pc := 106) hO dX8_init_106 (tgt := 135) (by decide) ?_
    refine k_iinc hO dX8_init_135 3 rfl (v := 45) (by decide) (by decide) (lv' := [(5, .int 45), (4, .int 1), (3, .int 8), (6, .int 104), (2, .int 8), (0, .ref h0), (1, .ref p1)]) rfl ?_
    refine k_goto (pc := 138) hO dX8_init_138 (tgt := 64) (by decide) ?_
    refine k_iload hO dX8_init_64 0 rfl ?_
    refine k_ldcS hO rfl dX8_init_66 ?_
    refine k_strlen hO w295 (Nat.le_of_ble_eq_true rfl) (Nat.le_of_ble_eq_true rfl) (Nat.le_of_ble_eq_true rfl) (Nat.le_of_ble_eq_true rfl) (Nat.le_of_ble_eq_true rfl) dX8_init_68 ?_
    refine k_icmp_geF (pc := 71) hO dX8_init_71 (tgt := 141) (by decide) (by decide) ?_
    refine k_ldcS hO rfl dX8_init_74 ?_
    refine k_iload hO dX8_init_76 0 rfl ?_
    refine k_charAt hO (k := 45) (v := 97) (Nat.le_of_ble_eq_true rfl) rfl rfl w305 (Nat.le_of_ble_eq_true rfl) (Nat.le_of_ble_eq_true rfl) (Nat.le_of_ble_eq_true rfl) (Nat.le_of_ble_eq_true rfl) (Nat.le_of_ble_eq_true rfl) dX8_init_78 ?_
    refine k_istore hO dX8_init_81 (by decide) (lv' := [(6, .int 97), (5, .int 45), (4, .int 1), (3, .int 8), (2, .int 8), (0, .ref h0), (1, .ref p1)]) rfl ?_
    refine k_iload hO dX8_init_83 0 rfl ?_
    refine k_bipush hO dX8_init_85 ic_b_32 ?_
    refine k_icmp_eqF (pc := 87) hO dX8_init_87 (tgt := 109) (by decide) (by decide) ?_
    refine k_bipush hO dX8_init_90 ic_b_27 ?_
    refine k_iload_n hO dX8_init_92 3 rfl rfl ?_
    refine k_imul hO dX8_init_93 (v := 216) (by decide) ?_
    refine k_iload hO dX8_init_94 0 rfl ?_
    refine k_iadd hO dX8_init_96 (v := 313) (by decide) ?_
    refine k_bipush hO dX8_init_97 ic_b_97 ?_
    refine k_isub hO dX8_init_99 (v := 216) (by decide) ?_
    refine k_iconst hO dX8_init_100 ic_i_1 ?_
    refine k_iadd hO dX8_init_101 (v := 217) (by decide) ?_
    refine k_istore_n hO dX8_init_102 rfl (by decide) (lv' := [(3, .int 217), (6, .int 97), (5, .int 45), (4, .int 1), (2, .int 8), (0, .ref h0), (1, .ref p1)]) rfl ?_
    refine k_iinc hO dX8_init_103 3 rfl (v := 2) (by decide) (by decide) (lv' := [(4, .int 2), (3, .int 217), (6, .int 97), (5, .int 45), (2, .int 8), (0, .ref h0), (1, .ref p1)]) rfl ?_
    refine k_goto (pc := 106) hO dX8_init_106 (tgt := 135) (by decide) ?_
    refine k_iinc hO dX8_init_135 3 rfl (v := 46) (by decide) (by decide) (lv' := [(5, .int 46), (4, .int 2), (3, .int 217), (6, .int 97), (2, .int 8), (0, .ref h0), (1, .ref p1)]) rfl ?_
    refine k_goto (pc := 138) hO dX8_init_138 (tgt := 64) (by decide) ?_
    refine k_iload hO dX8_init_64 0 rfl ?_
    refine k_ldcS hO rfl dX8_init_66 ?_
    refine k_strlen hO w295 (Nat.le_of_ble_eq_true rfl) (Nat.le_of_ble_eq_true rfl) (Nat.le_of_ble_eq_true rfl) (Nat.le_of_ble_eq_true rfl) (Nat.le_of_ble_eq_true rfl) dX8_init_68 ?_
    refine k_icmp_geF (pc := 71) hO dX8_init_71 (tgt := 141) (by decide) (by decide) ?_
    refine k_ldcS hO rfl dX8_init_74 ?_
    refine k_iload hO dX8_init_76 0 rfl ?_
    refine k_charAt hO (k := 46) (v := 115) (Nat.le_of_ble_eq_true rfl) rfl rfl w305 (Nat.le_of_ble_eq_true rfl) (Nat.le_of_ble_eq_true rfl) (Nat.le_of_ble_eq_true rfl) (Nat.le_of_ble_eq_true rfl) (Nat.le_of_ble_eq_true rfl) dX8_init_78 ?_
    refine k_istore hO dX8_init_81 (by decide) (lv' := [(6, .int 115), (5, .int 46), (4, .int 2), (3, .int 217), (2, .int 8), (0, .ref h0), (1, .ref p1)]) rfl ?_
    refine k_iload hO dX8_init_83 0 rfl ?_
    refine k_bipush hO dX8_init_85 ic_b_32 ?_
    refine k_icmp_eqF (pc := 87) hO dX8_init_87 (tgt := 109) (by decide) (by decide) ?_
    refine k_bipush hO dX8_init_90 ic_b_27 ?_
    refine k_iload_n hO dX8_init_92 3 rfl rfl ?_
    refine k_imul hO dX8_init_93 (v := 5859) (by decide) ?_
    refine k_iload hO dX8_init_94 0 rfl ?_
    refine k_iadd hO dX8_init_96 (v := 5974) (by decide) ?_
    refine k_bipush hO dX8_init_97 ic_b_97 ?_
    refine k_isub hO dX8_init_99 (v := 5877) (by decide) ?_
    refine k_iconst hO dX8_init_100 ic_i_1 ?_
    refine k_iadd hO dX8_init_101 (v := 5878) (by decide) ?_
    refine k_istore_n hO dX8_init_102 rfl (by decide) (lv' := [(3, .int 5878), (6, .int 115), (5, .int 46), (4, .int 2), (2, .int 8), (0, .ref h0), (1, .ref p1)]) rfl ?_
    refine k_iinc hO dX8_init_103 3 rfl (v := 3) (by decide) (by decide) (lv' := [(4, .int 3), (3, .int 5878), (6, .int 115), (5, .int 46), (2, .int 8), (0, .ref h0), (1, .ref p1)]) rfl ?_
    refine k_goto (pc := 106) hO dX8_init_106 (tgt := 135) (by decide) ?_
    refine k_iinc hO dX8_init_135 3 rfl (v := 47) (by decide) (by decide) (lv' := [(5, .int 47), (4, .int 3), (3, .int 5878), (6, .int 115), (2, .int 8), (0, .ref h0), (1, .ref p1)]) rfl ?_
    refine k_goto (pc := 138) hO dX8_init_138 (tgt := 64) (by decide) ?_
    refine k_iload hO dX8_init_64 0 rfl ?_
    refine k_ldcS hO rfl dX8_init_66 ?_
    refine k_strlen hO w295 (Nat.le_of_ble_eq_true rfl) (Nat.le_of_ble_eq_true rfl) (Nat.le_of_ble_eq_true rfl) (Nat.le_of_ble_eq_true rfl) (Nat.le_of_ble_eq_true rfl) dX8_init_68 ?_
    refine k_icmp_geF (pc := 71) hO dX8_init_71 (tgt := 141) (by decide) (by decide) ?_
    refine k_ldcS hO rfl dX8_init_74 ?_
    refine k_iload hO dX8_init_76 0 rfl ?_
    refine k_charAt hO (k := 47) (v := 32) (Nat.le_of_ble_eq_true rfl) rfl rfl w305 (Nat.le_of_ble_eq_true rfl) (Nat.le_of_ble_eq_true rfl) (Nat.le_of_ble_eq_true rfl) (Nat.le_of_ble_eq_true rfl) (Nat.le_of_ble_eq_true rfl) dX8_init_78 ?_
    refine k_istore hO dX8_init_81 (by decide) (lv' := [(6, .int 32), (5, .int 47), (4, .int 3), (3, .int 5878), (2, .int 8), (0, .ref h0), (1, .ref p1)]) rfl ?_
    refine k_iload hO dX8_init_83 0 rfl ?_
    refine k_bipush hO dX8_init_85 ic_b_32 ?_
    refine k_icmp_eqT (pc := 87) hO dX8_init_87 (tgt := 109) (by decide) (by decide) ?_
    refine k_iload_n hO dX8_init_109 4 rfl rfl ?_
    refine k_bipush hO dX8_init_110 ic_b_25 ?_
    refine k_icmp_geF (pc := 112) hO dX8_init_112 (tgt := 135) (by decide) (by decide) ?_
    refine k_aload_n hO dX8_init_115 5 rfl rfl ?_
    refine k_get hO flX8_11 0 rfl (v := .ref q7) rfl dX8_init_116 ?_
    refine k_iload_n hO dX8_init_119 4 rfl rfl ?_
    refine k_iload_n hO dX8_init_120 3 rfl rfl ?_
    refine k_iload hO dX8_init_121 2 rfl ?_
    refine k_fill hO fu_5878_3 w343 (Nat.le_of_ble_eq_true rfl) (Nat.le_of_ble_eq_true rfl) (Nat.le_of_ble_eq_true rfl) (Nat.le_of_ble_eq_true rfl) (Nat.le_of_ble_eq_true rfl) dX8_init_123 ?_
    refine k_iast hO 1 rfl (by decide) (k := 8) (by decide) (ws' := [(h0, .inr (8, [.ref p1, .ref q7, .int 259, .int 0, .int 0, .int 0, .int 0, .int 0, .int (-1)])), (q7, .inl (cy 0, 25, .inl (upd (upd (upd (upd (upd (upd (upd (upd (upd (fun _ => 0) 0 291417210) 1 332864532) 2 173107395) 3 51382989) 4 266274540) 5 294949755) 6 283368645) 7 230359626) 8 115696674)))]) rfl dX8_init_126 ?_
    refine k_iinc hO dX8_init_127 4 rfl (v := 9) (by decide) (by decide) (lv' := [(2, .int 9), (6, .int 32), (5, .int 47), (4, .int 3), (3, .int 5878), (0, .ref h0), (1, .ref p1)]) rfl ?_
    refine k_iconst hO dX8_init_130 ic_i_0 ?_
    refine k_istore_n hO dX8_init_131 rfl (by decide) (lv' := [(3, .int 0), (2, .int 9), (6, .int 32), (5, .int 47), (4, .int 3), (0, .ref h0), (1, .ref p1)]) rfl ?_
    refine k_iconst hO dX8_init_132 ic_i_0 ?_
    refine k_istore hO dX8_init_133 (by decide) (lv' := [(4, .int 0), (3, .int 0), (2, .int 9), (6, .int 32), (5, .int 47), (0, .ref h0), (1, .ref p1)]) rfl ?_
    refine k_iinc hO dX8_init_135 4 rfl (v := 48) (by decide) (by decide) (lv' := [(5, .int 48), (4, .int 0), (3, .int 0), (2, .int 9), (6, .int 32), (0, .ref h0), (1, .ref p1)]) rfl ?_
    refine k_goto (pc := 138) hO dX8_init_138 (tgt := 64) (by decide) ?_
    refine k_iload hO dX8_init_64 0 rfl ?_
    refine k_ldcS hO rfl dX8_init_66 ?_
    refine k_strlen hO w295 (Nat.le_of_ble_eq_true rfl) (Nat.le_of_ble_eq_true rfl) (Nat.le_of_ble_eq_true rfl) (Nat.le_of_ble_eq_true rfl) (Nat.le_of_ble_eq_true rfl) dX8_init_68 ?_
    refine k_icmp_geF (pc := 71) hO dX8_init_71 (tgt := 141) (by decide) (by decide) ?_
    refine k_ldcS hO rfl dX8_init_74 ?_
    refine k_iload hO dX8_init_76 0 rfl ?_
    refine k_charAt hO (k := 48) (v := 100) (Nat.le_of_ble_eq_true rfl) rfl rfl w305 (Nat.le_of_ble_eq_true rfl) (Nat.le_of_ble_eq_true rfl) (Nat.le_of_ble_eq_true rfl) (Nat.le_of_ble_eq_true rfl) (Nat.le_of_ble_eq_true rfl) dX8_init_78 ?_
    refine k_istore hO dX8_init_81 (by decide) (lv' := [(6, .int 100), (5, .int 48), (4, .int 0), (3, .int 0), (2, .int 9), (0, .ref h0), (1, .ref p1)]) rfl ?_
    refine k_iload hO dX8_init_83 0 rfl ?_
    refine k_bipush hO dX8_init_85 ic_b_32 ?_
    refine k_icmp_eqF (pc := 87) hO dX8_init_87 (tgt := 109) (by decide) (by decide) ?_
    refine k_bipush hO dX8_init_90 ic_b_27 ?_
    refine k_iload_n hO dX8_init_92 3 rfl rfl ?_
    refine k_imul hO dX8_init_93 (v := 0) (by decide) ?_
    refine k_iload hO dX8_init_94 0 rfl ?_
    refine k_iadd hO dX8_init_96 (v := 100) (by decide) ?_
    refine k_bipush hO dX8_init_97 ic_b_97 ?_
    refine k_isub hO dX8_init_99 (v := 3) (by decide) ?_
    refine k_iconst hO dX8_init_100 ic_i_1 ?_
    refine k_iadd hO dX8_init_101 (v := 4) (by decide) ?_
    refine k_istore_n hO dX8_init_102 rfl (by decide) (lv' := [(3, .int 4), (6, .int 100), (5, .int 48), (4, .int 0), (2, .int 9), (0, .ref h0), (1, .ref p1)]) rfl ?_
    refine k_iinc hO dX8_init_103 3 rfl (v := 1) (by decide) (by decide) (lv' := [(4, .int 1), (3, .int 4), (6, .int 100), (5, .int 48), (2, .int 9), (0, .ref h0), (1, .ref p1)]) rfl ?_
    refine k_goto (pc := 106) hO dX8_init_106 (tgt := 135) (by decide) ?_
    refine k_iinc hO dX8_init_135 3 rfl (v := 49) (by decide) (by decide) (lv' := [(5, .int 49), (4, .int 1), (3, .int 4), (6, .int 100), (2, .int 9), (0, .ref h0), (1, .ref p1)]) rfl ?_
    refine k_goto (pc := 138) hO dX8_init_138 (tgt := 64) (by decide) ?_
    refine k_iload hO dX8_init_64 0 rfl ?_
    refine k_ldcS hO rfl dX8_init_66 ?_
    refine k_strlen hO w295 (Nat.le_of_ble_eq_true rfl) (Nat.le_of_ble_eq_true rfl) (Nat.le_of_ble_eq_true rfl) (Nat.le_of_ble_eq_true rfl) (Nat.le_of_ble_eq_true rfl) dX8_init_68 ?_
    refine k_icmp_geF (pc := 71) hO dX8_init_71 (tgt := 141) (by decide) (by decide) ?_
    refine k_ldcS hO rfl dX8_init_74 ?_
    refine k_iload hO dX8_init_76 0 rfl ?_
    refine k_charAt hO (k := 49) (v := 111) (Nat.le_of_ble_eq_true rfl) rfl rfl w305 (Nat.le_of_ble_eq_true rfl) (Nat.le_of_ble_eq_true rfl) (Nat.le_of_ble_eq_true rfl) (Nat.le_of_ble_eq_true rfl) (Nat.le_of_ble_eq_true rfl) dX8_init_78 ?_
    refine k_istore hO dX8_init_81 (by decide) (lv' := [(6, .int 111), (5, .int 49), (4, .int 1), (3, .int 4), (2, .int 9), (0, .ref h0), (1, .ref p1)]) rfl ?_
    refine k_iload hO dX8_init_83 0 rfl ?_
    refine k_bipush hO dX8_init_85 ic_b_32 ?_
    refine k_icmp_eqF (pc := 87) hO dX8_init_87 (tgt := 109) (by decide) (by decide) ?_
    refine k_bipush hO dX8_init_90 ic_b_27 ?_
    refine k_iload_n hO dX8_init_92 3 rfl rfl ?_
    refine k_imul hO dX8_init_93 (v := 108) (by decide) ?_
    refine k_iload hO dX8_init_94 0 rfl ?_
    refine k_iadd hO dX8_init_96 (v := 219) (by decide) ?_
    refine k_bipush hO dX8_init_97 ic_b_97 ?_
    refine k_isub hO dX8_init_99 (v := 122) (by decide) ?_
    refine k_iconst hO dX8_init_100 ic_i_1 ?_
    refine k_iadd hO dX8_init_101 (v := 123) (by decide) ?_
    refine k_istore_n hO dX8_init_102 rfl (by decide) (lv' := [(3, .int 123), (6, .int 111), (5, .int 49), (4, .int 1), (2, .int 9), (0, .ref h0), (1, .ref p1)]) rfl ?_
    refine k_iinc hO dX8_init_103 3 rfl (v := 2) (by decide) (by decide) (lv' := [(4, .int 2), (3, .int 123), (6, .int 111), (5, .int 49), (2, .int 9), (0, .ref h0), (1, .ref p1)]) rfl ?_
    refine k_goto (pc := 106) hO dX8_init_106 (tgt := 135) (by decide) ?_
    refine k_iinc hO dX8_init_135 3 rfl (v := 50) (by decide) (by decide) (lv' := [(5, .int 50), (4, .int 2), (3, .int 123), (6, .int 111), (2, .int 9), (0, .ref h0), (1, .ref p1)]) rfl ?_
    refine k_goto (pc := 138) hO dX8_init_138 (tgt := 64) (by decide) ?_
    refine k_iload hO dX8_init_64 0 rfl ?_
    refine k_ldcS hO rfl dX8_init_66 ?_
    refine k_strlen hO w295 (Nat.le_of_ble_eq_true rfl) (Nat.le_of_ble_eq_true rfl) (Nat.le_of_ble_eq_true rfl) (Nat.le_of_ble_eq_true rfl) (Nat.le_of_ble_eq_true rfl) dX8_init_68 ?_
    refine k_icmp_geF (pc := 71) hO dX8_init_71 (tgt := 141) (by decide) (by decide) ?_
    refine k_ldcS hO rfl dX8_init_74 ?_
    refine k_iload hO dX8_init_76 0 rfl ?_
    refine k_charAt hO (k := 50) (v := 105) (Nat.le_of_ble_eq_true rfl) rfl rfl w305 (Nat.le_of_ble_eq_true rfl) (Nat.le_of_ble_eq_true rfl) (Nat.le_of_ble_eq_true rfl) (Nat.le_of_ble_eq_true rfl) (Nat.le_of_ble_eq_true rfl) dX8_init_78 ?_
    refine k_istore hO dX8_init_81 (by decide) (lv' := [(6, .int 105), (5, .int 50), (4, .int 2), (3, .int 123), (2, .int 9), (0, .ref h0), (1, .ref p1)]) rfl ?_
    refine k_iload hO dX8_init_83 0 rfl ?_
    refine k_bipush hO dX8_init_85 ic_b_32 ?_
    refine k_icmp_eqF (pc := 87) hO dX8_init_87 (tgt := 109) (by decide) (by decide) ?_
    refine k_bipush hO dX8_init_90 ic_b_27 ?_
    refine k_iload_n hO dX8_init_92 3 rfl rfl ?_
    refine k_imul hO dX8_init_93 (v := 3321) (by decide) ?_
    refine k_iload hO dX8_init_94 0 rfl ?_
    refine k_iadd hO dX8_init_96 (v := 3426) (by decide) ?_
    refine k_bipush hO dX8_init_97 ic_b_97 ?_
    refine k_isub hO dX8_init_99 (v := 3329) (by decide) ?_
    refine k_iconst hO dX8_init_100 ic_i_1 ?_
    refine k_iadd hO dX8_init_101 (v := 3330) (by decide) ?_
    refine k_istore_n hO dX8_init_102 rfl (by decide) (lv' := [(3, .int 3330), (6, .int 105), (5, .int 50), (4, .int 2), (2, .int 9), (0, .ref h0), (1, .ref p1)]) rfl ?_
    refine k_iinc hO dX8_init_103 3 rfl (v := 3) (by decide) (by decide) (lv' := [(4, .int 3), (3, .int 3330), (6, .int 105), (5, .int 50), (2, .int 9), (0, .ref h0), (1, .ref p1)]) rfl ?_
    refine k_goto (pc := 106) hO dX8_init_106 (tgt := 135) (by decide) ?_
    refine k_iinc hO dX8_init_135 3 rfl (v := 51) (by decide) (by decide) (lv' := [(5, .int 51), (4, .int 3), (3, .int 3330), (6, .int 105), (2, .int 9), (0, .ref h0), (1, .ref p1)]) rfl ?_
    refine k_goto (pc := 138) hO dX8_init_138 (tgt := 64) (by decide) ?_
    refine k_iload hO dX8_init_64 0 rfl ?_
    refine k_ldcS hO rfl dX8_init_66 ?_
    refine k_strlen hO w295 (Nat.le_of_ble_eq_true rfl) (Nat.le_of_ble_eq_true rfl) (Nat.le_of_ble_eq_true rfl) (Nat.le_of_ble_eq_true rfl) (Nat.le_of_ble_eq_true rfl) dX8_init_68 ?_
    refine k_icmp_geF (pc := 71) hO dX8_init_71 (tgt := 141) (by decide) (by decide) ?_
    refine k_ldcS hO rfl dX8_init_74 ?_
    refine k_iload hO dX8_init_76 0 rfl ?_
    refine k_charAt hO (k := 51) (v := 110) (Nat.le_of_ble_eq_true rfl) rfl rfl w305 (Nat.le_of_ble_eq_true rfl) (Nat.le_of_ble_eq_true rfl) (Nat.le_of_ble_eq_true rfl) (Nat.le_of_ble_eq_true rfl) (Nat.le_of_ble_eq_true rfl) dX8_init_78 ?_
    refine k_istore hO dX8_init_81 (by decide) (lv' := [(6, .int 110), (5, .int 51), (4, .int 3), (3, .int 3330), (2, .int 9), (0, .ref h0), (1, .ref p1)]) rfl ?_
    refine k_iload hO dX8_init_83 0 rfl ?_
    refine k_bipush hO dX8_init_85 ic_b_32 ?_
    refine k_icmp_eqF (pc := 87) hO dX8_init_87 (tgt := 109) (by decide) (by decide) ?_
    refine k_bipush hO dX8_init_90 ic_b_27 ?_
    refine k_iload_n hO dX8_init_92 3 rfl rfl ?_
    refine k_imul hO dX8_init_93 (v := 89910) (by decide) ?_
    refine k_iload hO dX8_init_94 0 rfl ?_
    refine k_iadd hO dX8_init_96 (v := 90020) (by decide) ?_
    refine k_bipush hO dX8_init_97 ic_b_97 ?_
    refine k_isub hO dX8_init_99 (v := 89923) (by decide) ?_
    refine k_iconst hO dX8_init_100 ic_i_1 ?_
    refine k_iadd hO dX8_init_101 (v := 89924) (by decide) ?_
    refine k_istore_n hO dX8_init_102 rfl (by decide) (lv' := [(3, .int 89924), (6, .int 110), (5, .int 51), (4, .int 3), (2, .int 9), (0, .ref h0), (1, .ref p1)]) rfl ?_
    refine k_iinc hO dX8_init_103 3 rfl (v := 4) (by decide) (by decide) (lv' := [(4, .int 4), (3, .int 89924), (6, .int 110), (5, .int 51), (2, .int 9), (0, .ref h0), (1, .ref p1)]) rfl ?_
    refine k_goto (pc := 106) hO dX8_init_106 (tgt := 135) (by decide) ?_
    refine k_iinc hO dX8_init_135 3 rfl (v := 52) (by decide) (by decide) (lv' := [(5, .int 52), (4, .int 4), (3, .int 89924), (6, .int 110), (2, .int 9), (0, .ref h0), (1, .ref p1)]) rfl ?_
    refine k_goto (pc := 138) hO dX8_init_138 (tgt := 64) (by decide) ?_
    refine k_iload hO dX8_init_64 0 rfl ?_
    refine k_ldcS hO rfl dX8_init_66 ?_
    refine k_strlen hO w295 (Nat.le_of_ble_eq_true rfl) (Nat.le_of_ble_eq_true rfl) (Nat.le_of_ble_eq_true rfl) (Nat.le_of_ble_eq_true rfl) (Nat.le_of_ble_eq_true rfl) dX8_init_68 ?_
    refine k_icmp_geF (pc := 71) hO dX8_init_71 (tgt := 141) (by decide) (by decide) ?_
    refine k_ldcS hO rfl dX8_init_74 ?_
    refine k_iload hO dX8_init_76 0 rfl ?_
    refine k_charAt hO (k := 52) (v := 103) (Nat.le_of_ble_eq_true rfl) rfl rfl w305 (Nat.le_of_ble_eq_true rfl) (Nat.le_of_ble_eq_true rfl) (Nat.le_of_ble_eq_true rfl) (Nat.le_of_ble_eq_true rfl) (Nat.le_of_ble_eq_true rfl) dX8_init_78 ?_
    refine k_istore hO dX8_init_81 (by decide) (lv' := [(6, .int 103), (5, .int 52), (4, .int 4), (3, .int 89924), (2, .int 9), (0, .ref h0), (1, .ref p1)]) rfl ?_
    refine k_iload hO dX8_init_83 0 rfl ?_
    refine k_bipush hO dX8_init_85 ic_b_32 ?_
    refine k_icmp_eqF (pc := 87) hO dX8_init_87 (tgt := 109) (by decide) (by decide) ?_
    refine k_bipush hO dX8_init_90 ic_b_27 ?_
    refine k_iload_n hO dX8_init_92 3 rfl rfl ?_
    refine k_imul hO dX8_init_93 (v := 2427948) (by decide) ?_
    refine k_iload hO dX8_init_94 0 rfl ?_
    refine k_iadd hO dX8_init_96 (v := 2428051) (by decide) ?_
    refine k_bipush hO dX8_init_97 ic_b_97 ?_
    refine k_isub hO dX8_init_99 (v := 2427954) (by decide) ?_
    refine k_iconst hO dX8_init_100 ic_i_1 ?_
    refine k_iadd hO dX8_init_101 (v := 2427955) (by decide) ?_
    refine k_istore_n hO dX8_init_102 rfl (by decide) (lv' := [(3, .int 2427955), (6, .int 103), (5, .int 52), (4, .int 4), (2, .int 9), (0, .ref h0), (1, .ref p1)]) rfl ?_
    refine k_iinc hO dX8_init_103 3 rfl (v := 5) (by decide) (by decide) (lv' := [(4, .int 5), (3, .int 2427955), (6, .int 103), (5, .int 52), (2, .int 9), (0, .ref h0), (1, .ref p1)]) rfl ?_
    refine k_goto (pc := 106) hO dX8_init_106 (tgt := 135) (by decide) ?_
    refine k_iinc hO dX8_init_135 3 rfl (v := 53) (by decide) (by decide) (lv' := [(5, .int 53), (4, .int 5), (3, .int 2427955), (6, .int 103), (2, .int 9), (0, .ref h0), (1, .ref p1)]) rfl ?_
    refine k_goto (pc := 138) hO dX8_init_138 (tgt := 64) (by decide) ?_
    refine k_iload hO dX8_init_64 0 rfl ?_
    refine k_ldcS hO rfl dX8_init_66 ?_
    refine k_strlen hO w295 (Nat.le_of_ble_eq_true rfl) (Nat.le_of_ble_eq_true rfl) (Nat.le_of_ble_eq_true rfl) (Nat.le_of_ble_eq_true rfl) (Nat.le_of_ble_eq_true rfl) dX8_init_68 ?_
    refine k_icmp_geF (pc := 71) hO dX8_init_71 (tgt := 141) (by decide) (by decide) ?_
    refine k_ldcS hO rfl dX8_init_74 ?_
    refine k_iload hO dX8_init_76 0 rfl ?_
    refine k_charAt hO (k := 53) (v := 32) (Nat.le_of_ble_eq_true rfl) rfl rfl w305 (Nat.le_of_ble_eq_true rfl) (Nat.le_of_ble_eq_true rfl) (Nat.le_of_ble_eq_true rfl) (Nat.le_of_ble_eq_true rfl) (Nat.le_of_ble_eq_true rfl) dX8_init_78 ?_
    refine k_istore hO dX8_init_81 (by decide) (lv' := [(6, .int 32), (5, .int 53), (4, .int 5), (3, .int 2427955), (2, .int 9), (0, .ref h0), (1, .ref p1)]) rfl ?_
    refine k_iload hO dX8_init_83 0 rfl ?_
    refine k_bipush hO dX8_init_85 ic_b_32 ?_
    refine k_icmp_eqT (pc := 87) hO dX8_init_87 (tgt := 109) (by decide) (by decide) ?_
    refine k_iload_n hO dX8_init_109 4 rfl rfl ?_
    refine k_bipush hO dX8_init_110 ic_b_25 ?_
    refine k_icmp_geF (pc := 112) hO dX8_init_112 (tgt := 135) (by decide) (by decide) ?_
    refine k_aload_n hO dX8_init_115 5 rfl rfl ?_
    refine k_get hO flX8_11 0 rfl (v := .ref q7) rfl dX8_init_116 ?_
    refine k_iload_n hO dX8_init_119 4 rfl rfl ?_
    refine k_iload_n hO dX8_init_120 3 rfl rfl ?_
    refine k_iload hO dX8_init_121 2 rfl ?_
    refine k_fill hO fu_2427955_5 w343 (Nat.le_of_ble_eq_true rfl) (Nat.le_of_ble_eq_true rfl) (Nat.le_of_ble_eq_true rfl) (Nat.le_of_ble_eq_true rfl) (Nat.le_of_ble_eq_true rfl) dX8_init_123 ?_
    refine k_iast hO 1 rfl (by decide) (k := 9) (by decide) (ws' := [(h0, .inr (8, [.ref p1, .ref q7, .int 259, .int 0, .int 0, .int 0, .int 0, .int 0, .int (-1)])), (q7, .inl (cy 0, 25, .inl (upd (upd (upd (upd (upd (upd (upd (upd (upd (upd (fun _ => 0) 0 291417210) 1 332864532) 2 173107395) 3 51382989) 4 266274540) 5 294949755) 6 283368645) 7 230359626) 8 115696674) 9 65554785)))]) rfl dX8_init_126 ?_
    refine k_iinc hO dX8_init_127 4 rfl (v := 10) (by decide) (by decide) (lv' := [(2, .int 10), (6, .int 32), (5, .int 53), (4, .int 5), (3, .int 2427955), (0, .ref h0), (1, .ref p1)]) rfl ?_
    refine k_iconst hO dX8_init_130 ic_i_0 ?_
    refine k_istore_n hO dX8_init_131 rfl (by decide) (lv' := [(3, .int 0), (2, .int 10), (6, .int 32), (5, .int 53), (4, .int 5), (0, .ref h0), (1, .ref p1)]) rfl ?_
    refine k_iconst hO dX8_init_132 ic_i_0 ?_
    refine k_istore hO dX8_init_133 (by decide) (lv' := [(4, .int 0), (3, .int 0), (2, .int 10), (6, .int 32), (5, .int 53), (0, .ref h0), (1, .ref p1)]) rfl ?_
    refine k_iinc hO dX8_init_135 4 rfl (v := 54) (by decide) (by decide) (lv' := [(5, .int 54), (4, .int 0), (3, .int 0), (2, .int 10), (6, .int 32), (0, .ref h0), (1, .ref p1)]) rfl ?_
    refine k_goto (pc := 138) hO dX8_init_138 (tgt := 64) (by decide) ?_
    refine k_iload hO dX8_init_64 0 rfl ?_
    refine k_ldcS hO rfl dX8_init_66 ?_
    refine k_strlen hO w295 (Nat.le_of_ble_eq_true rfl) (Nat.le_of_ble_eq_true rfl) (Nat.le_of_ble_eq_true rfl) (Nat.le_of_ble_eq_true rfl) (Nat.le_of_ble_eq_true rfl) dX8_init_68 ?_
    refine k_icmp_geF (pc := 71) hO dX8_init_71 (tgt := 141) (by decide) (by decide) ?_
    refine k_ldcS hO rfl dX8_init_74 ?_
    refine k_iload hO dX8_init_76 0 rfl ?_
    refine k_charAt hO (k := 54) (v := 97) (Nat.le_of_ble_eq_true rfl) rfl rfl w305 (Nat.le_of_ble_eq_true rfl) (Nat.le_of_ble_eq_true rfl) (Nat.le_of_ble_eq_true rfl) (Nat.le_of_ble_eq_true rfl) (Nat.le_of_ble_eq_true rfl) dX8_init_78 ?_
    refine k_istore hO dX8_init_81 (by decide) (lv' := [(6, .int 97), (5, .int 54), (4, .int 0), (3, .int 0), (2, .int 10), (0, .ref h0), (1, .ref p1)]) rfl ?_
    refine k_iload hO dX8_init_83 0 rfl ?_
    refine k_bipush hO dX8_init_85 ic_b_32 ?_
    refine k_icmp_eqF (pc := 87) hO dX8_init_87 (tgt := 109) (by decide) (by decide) ?_
    refine k_bipush hO dX8_init_90 ic_b_27 ?_
    refine k_iload_n hO dX8_init_92 3 rfl rfl ?_
    refine k_imul hO dX8_init_93 (v := 0) (by decide) ?_
    refine k_iload hO dX8_init_94 0 rfl ?_
    refine k_iadd hO dX8_init_96 (v := 97) (by decide) ?_
    refine k_bipush hO dX8_init_97 ic_b_97 ?_
    refine k_isub hO dX8_init_99 (v := 0) (by decide) ?_
    refine k_iconst hO dX8_init_100 ic_i_1 ?_
    refine k_iadd hO dX8_init_101 (v := 1) (by decide) ?_
    refine k_istore_n hO dX8_init_102 rfl (by decide) (lv' := [(3, .int 1), (6, .int 97), (5, .int 54), (4, .int 0), (2, .int 10), (0, .ref h0), (1, .ref p1)]) rfl ?_
    refine k_iinc hO dX8_init_103 3 rfl (v := 1) (by decide) (by decide) (lv' := [(4, .int 1), (3, .int 1), (6, .int 97), (5, .int 54), (2, .int 10), (0, .ref h0), (1, .ref p1)]) rfl ?_
    refine k_goto (pc := 106) hO dX8_init_106 (tgt := 135) (by decide) ?_
    refine k_iinc hO dX8_init_135 3 rfl (v := 55) (by decide) (by decide) (lv' := [(5, .int 55), (4, .int 1), (3, .int 1), (6, .int 97), (2, .int 10), (0, .ref h0), (1, .ref p1)]) rfl ?_
    refine k_goto (pc := 138) hO dX8_init_138 (tgt := 64) (by decide) ?_
    refine k_iload hO dX8_init_64 0 rfl ?_
    refine k_ldcS hO rfl dX8_init_66 ?_
    refine k_strlen hO w295 (Nat.le_of_ble_eq_true rfl) (Nat.le_of_ble_eq_true rfl) (Nat.le_of_ble_eq_true rfl) (Nat.le_of_ble_eq_true rfl) (Nat.le_of_ble_eq_true rfl) dX8_init_68 ?_
    refine k_icmp_geF (pc := 71) hO dX8_init_71 (tgt := 141) (by decide) (by decide) ?_
    refine k_ldcS hO rfl dX8_init_74 ?_
    refine k_iload hO dX8_init_76 0 rfl ?_
    refine k_charAt hO (k := 55) (v := 116) (Nat.le_of_ble_eq_true rfl) rfl rfl w305 (Nat.le_of_ble_eq_true rfl) (Nat.le_of_ble_eq_true rfl) (Nat.le_of_ble_eq_true rfl) (Nat.le_of_ble_eq_true rfl) (Nat.le_of_ble_eq_true rfl) dX8_init_78 ?_
    refine k_istore hO dX8_init_81 (by decide) (lv' := [(6, .int 116), (5, .int 55), (4, .int 1), (3, .int 1), (2, .int 10), (0, .ref h0), (1, .ref p1)]) rfl ?_
    refine k_iload hO dX8_init_83 0 rfl ?_
    refine k_bipush hO dX8_init_85 ic_b_32 ?_
    refine k_icmp_eqF (pc := 87) hO dX8_init_87 (tgt := 109) (by decide) (by decide) ?_
    refine k_bipush hO dX8_init_90 ic_b_27 ?_
    refine k_iload_n hO dX8_init_92 3 rfl rfl ?_
    refine k_imul hO dX8_init_93 (v := 27) (by decide) ?_
    refine k_iload hO dX8_init_94 0 rfl ?_
    refine k_iadd hO dX8_init_96 (v := 143) (by decide) ?_
    refine k_bipush hO dX8_init_97 ic_b_97 ?_
    refine k_isub hO dX8_init_99 (v := 46) (by decide) ?_
    refine k_iconst hO dX8_init_100 ic_i_1 ?_
    refine k_iadd hO dX8_init_101 (v := 47) (by decide) ?_
    refine k_istore_n hO dX8_init_102 rfl (by decide) (lv' := [(3, .int 47), (6, .int 116), (5, .int 55), (4, .int 1), (2, .int 10), (0, .ref h0), (1, .ref p1)]) rfl ?_
    refine k_iinc hO dX8_init_103 3 rfl (v := 2) (by decide) (by decide) (lv' := [(4, .int 2), (3, .int 47), (6, .int 116), (5, .int 55), (2, .int 10), (0, .ref h0), (1, .ref p1)]) rfl ?_
    refine k_goto (pc := 106) hO dX8_init_106 (tgt := 135) (by decide) ?_
    refine k_iinc hO dX8_init_135 3 rfl (v := 56) (by decide) (by decide) (lv' := [(5, .int 56), (4, .int 2), (3, .int 47), (6, .int 116), (2, .int 10), (0, .ref h0), (1, .ref p1)]) rfl ?_
    refine k_goto (pc := 138) hO dX8_init_138 (tgt := 64) (by decide) ?_
    refine k_iload hO dX8_init_64 0 rfl ?_
    refine k_ldcS hO rfl dX8_init_66 ?_
    refine k_strlen hO w295 (Nat.le_of_ble_eq_true rfl) (Nat.le_of_ble_eq_true rfl) (Nat.le_of_ble_eq_true rfl) (Nat.le_of_ble_eq_true rfl) (Nat.le_of_ble_eq_true rfl) dX8_init_68 ?_
    refine k_icmp_geF (pc := 71) hO dX8_init_71 (tgt := 141) (by decide) (by decide) ?_
    refine k_ldcS hO rfl dX8_init_74 ?_
    refine k_iload hO dX8_init_76 0 rfl ?_
    refine k_charAt hO (k := 56) (v := 32) (Nat.le_of_ble_eq_true rfl) rfl rfl w305 (Nat.le_of_ble_eq_true rfl) (Nat.le_of_ble_eq_true rfl) (Nat.le_of_ble_eq_true rfl) (Nat.le_of_ble_eq_true rfl) (Nat.le_of_ble_eq_true rfl) dX8_init_78 ?_
    refine k_istore hO dX8_init_81 (by decide) (lv' := [(6, .int 32), (5, .int 56), (4, .int 2), (3, .int 47), (2, .int 10), (0, .ref h0), (1, .ref p1)]) rfl ?_
    refine k_iload hO dX8_init_83 0 rfl ?_
    refine k_bipush hO dX8_init_85 ic_b_32 ?_
    refine k_icmp_eqT (pc := 87) hO dX8_init_87 (tgt := 109) (by decide) (by decide) ?_
    refine k_iload_n hO dX8_init_109 4 rfl rfl ?_
    refine k_bipush hO dX8_init_110 ic_b_25 ?_
    refine k_icmp_geF (pc := 112) hO dX8_init_112 (tgt := 135) (by decide) (by decide) ?_
    refine k_aload_n hO dX8_init_115 5 rfl rfl ?_
    refine k_get hO flX8_11 0 rfl (v := .ref q7) rfl dX8_init_116 ?_
    refine k_iload_n hO dX8_init_119 4 rfl rfl ?_
    refine k_iload_n hO dX8_init_120 3 rfl rfl ?_
    refine k_iload hO dX8_init_121 2 rfl ?_
    refine k_fill hO fu_47_2 w343 (Nat.le_of_ble_eq_true rfl) (Nat.le_of_ble_eq_true rfl) (Nat.le_of_ble_eq_true rfl) (Nat.le_of_ble_eq_true rfl) (Nat.le_of_ble_eq_true rfl) dX8_init_123 ?_
    refine k_iast hO 1 rfl (by decide) (k := 10) (by decide) (ws' := [(h0, .inr (8, [.ref p1, .ref q7, .int 259, .int 0, .int 0, .int 0, .int 0, .int 0, .int (-1)])), (q7, .inl (cy 0, 25, .inl (upd (upd (upd (upd (upd (upd (upd (upd (upd (upd (upd (fun _ => 0) 0 291417210) 1 332864532) 2 173107395) 3 51382989) 4 266274540) 5 294949755) 6 283368645) 7 230359626) 8 115696674) 9 65554785) 10 24977727)))]) rfl dX8_init_126 ?_
    refine k_iinc hO dX8_init_127 4 rfl (v := 11) (by decide) (by decide) (lv' := [(2, .int 11), (6, .int 32), (5, .int 56), (4, .int 2), (3, .int 47), (0, .ref h0), (1, .ref p1)]) rfl ?_
    refine k_iconst hO dX8_init_130 ic_i_0 ?_
    refine k_istore_n hO dX8_init_131 rfl (by decide) (lv' := [(3, .int 0), (2, .int 11), (6, .int 32), (5, .int 56), (4, .int 2), (0, .ref h0), (1, .ref p1)]) rfl ?_
    refine k_iconst hO dX8_init_132 ic_i_0 ?_
    refine k_istore hO dX8_init_133 (by decide) (lv' := [(4, .int 0), (3, .int 0), (2, .int 11), (6, .int 32), (5, .int 56), (0, .ref h0), (1, .ref p1)]) rfl ?_
    refine k_iinc hO dX8_init_135 4 rfl (v := 57) (by decide) (by decide) (lv' := [(5, .int 57), (4, .int 0), (3, .int 0), (2, .int 11), (6, .int 32), (0, .ref h0), (1, .ref p1)]) rfl ?_
    refine k_goto (pc := 138) hO dX8_init_138 (tgt := 64) (by decide) ?_
    refine k_iload hO dX8_init_64 0 rfl ?_
    refine k_ldcS hO rfl dX8_init_66 ?_
    refine k_strlen hO w295 (Nat.le_of_ble_eq_true rfl) (Nat.le_of_ble_eq_true rfl) (Nat.le_of_ble_eq_true rfl) (Nat.le_of_ble_eq_true rfl) (Nat.le_of_ble_eq_true rfl) dX8_init_68 ?_
    refine k_icmp_geF (pc := 71) hO dX8_init_71 (tgt := 141) (by decide) (by decide) ?_
    refine k_ldcS hO rfl dX8_init_74 ?_
    refine k_iload hO dX8_init_76 0 rfl ?_
    refine k_charAt hO (k := 57) (v := 104) (Nat.le_of_ble_eq_true rfl) rfl rfl w305 (Nat.le_of_ble_eq_true rfl) (Nat.le_of_ble_eq_true rfl) (Nat.le_of_ble_eq_true rfl) (Nat.le_of_ble_eq_true rfl) (Nat.le_of_ble_eq_true rfl) dX8_init_78 ?_
    refine k_istore hO dX8_init_81 (by decide) (lv' := [(6, .int 104), (5, .int 57), (4, .int 0), (3, .int 0), (2, .int 11), (0, .ref h0), (1, .ref p1)]) rfl ?_
    refine k_iload hO dX8_init_83 0 rfl ?_
    refine k_bipush hO dX8_init_85 ic_b_32 ?_
    refine k_icmp_eqF (pc := 87) hO dX8_init_87 (tgt := 109) (by decide) (by decide) ?_
    refine k_bipush hO dX8_init_90 ic_b_27 ?_
    refine k_iload_n hO dX8_init_92 3 rfl rfl ?_
    refine k_imul hO dX8_init_93 (v := 0) (by decide) ?_
    refine k_iload hO dX8_init_94 0 rfl ?_
    refine k_iadd hO dX8_init_96 (v := 104) (by decide) ?_
    refine k_bipush hO dX8_init_97 ic_b_97 ?_
    refine k_isub hO dX8_init_99 (v := 7) (by decide) ?_
    refine k_iconst hO dX8_init_100 ic_i_1 ?_
    refine k_iadd hO dX8_init_101 (v := 8) (by decide) ?_
    refine k_istore_n hO dX8_init_102 rfl (by decide) (lv' := [(3, .int 8), (6, .int 104), (5, .int 57), (4, .int 0), (2, .int 11), (0, .ref h0), (1, .ref p1)]) rfl ?_
    refine k_iinc hO dX8_init_103 3 rfl (v := 1) (by decide) (by decide) (lv' := [(4, .int 1), (3, .int 8), (6, .int 104), (5, .int 57), (2, .int 11), (0, .ref h0), (1, .ref p1)]) rfl ?_
    refine k_goto (pc := 106) hO dX8_init_106 (tgt := 135) (by decide) ?_
    refine k_iinc hO dX8_init_135 3 rfl (v := 58) (by decide) (by decide) (lv' := [(5, .int 58), (4, .int 1), (3, .int 8), (6, .int 104), (2, .int 11), (0, .ref h0), (1, .ref p1)]) rfl ?_
    refine k_goto (pc := 138) hO dX8_init_138 (tgt := 64) (by decide) ?_
    refine k_iload hO dX8_init_64 0 rfl ?_
    refine k_ldcS hO rfl dX8_init_66 ?_
    refine k_strlen hO w295 (Nat.le_of_ble_eq_true rfl) (Nat.le_of_ble_eq_true rfl) (Nat.le_of_ble_eq_true rfl) (Nat.le_of_ble_eq_true rfl) (Nat.le_of_ble_eq_true rfl) dX8_init_68 ?_
    refine k_icmp_geF (pc := 71) hO dX8_init_71 (tgt := 141) (by decide) (by decide) ?_
    refine k_ldcS hO rfl dX8_init_74 ?_
    refine k_iload hO dX8_init_76 0 rfl ?_
    refine k_charAt hO (k := 58) (v := 111) (Nat.le_of_ble_eq_true rfl) rfl rfl w305 (Nat.le_of_ble_eq_true rfl) (Nat.le_of_ble_eq_true rfl) (Nat.le_of_ble_eq_true rfl) (Nat.le_of_ble_eq_true rfl) (Nat.le_of_ble_eq_true rfl) dX8_init_78 ?_
    refine k_istore hO dX8_init_81 (by decide) (lv' := [(6, .int 111), (5, .int 58), (4, .int 1), (3, .int 8), (2, .int 11), (0, .ref h0), (1, .ref p1)]) rfl ?_
    refine k_iload hO dX8_init_83 0 rfl ?_
    refine k_bipush hO dX8_init_85 ic_b_32 ?_
    refine k_icmp_eqF (pc := 87) hO dX8_init_87 (tgt := 109) (by decide) (by decide) ?_
    refine k_bipush hO dX8_init_90 ic_b_27 ?_
    refine k_iload_n hO dX8_init_92 3 rfl rfl ?_
    refine k_imul hO dX8_init_93 (v := 216) (by decide) ?_
    refine k_iload hO dX8_init_94 0 rfl ?_
    refine k_iadd hO dX8_init_96 (v := 327) (by decide) ?_
    refine k_bipush hO dX8_init_97 ic_b_97 ?_
    refine k_isub hO dX8_init_99 (v := 230) (by decide) ?_
    refine k_iconst hO dX8_init_100 ic_i_1 ?_
    refine k_iadd hO dX8_init_101 (v := 231) (by decide) ?_
    refine k_istore_n hO dX8_init_102 rfl (by decide) (lv' := [(3, .int 231), (6, .int 111), (5, .int 58), (4, .int 1), (2, .int 11), (0, .ref h0), (1, .ref p1)]) rfl ?_
    refine k_iinc hO dX8_init_103 3 rfl (v := 2) (by decide) (by decide) (lv' := [(4, .int 2), (3, .int 231), (6, .int 111), (5, .int 58), (2, .int 11), (0, .ref h0), (1, .ref p1)]) rfl ?_
    refine k_goto (pc := 106) hO dX8_init_106 (tgt := 135) (by decide) ?_
    refine k_iinc hO dX8_init_135 3 rfl (v := 59) (by decide) (by decide) (lv' := [(5, .int 59), (4, .int 2), (3, .int 231), (6, .int 111), (2, .int 11), (0, .ref h0), (1, .ref p1)]) rfl ?_
    refine k_goto (pc := 138) hO dX8_init_138 (tgt := 64) (by decide) ?_
    refine k_iload hO dX8_init_64 0 rfl ?_
    refine k_ldcS hO rfl dX8_init_66 ?_
    refine k_strlen hO w295 (Nat.le_of_ble_eq_true rfl) (Nat.le_of_ble_eq_true rfl) (Nat.le_of_ble_eq_true rfl) (Nat.le_of_ble_eq_true rfl) (Nat.le_of_ble_eq_true rfl) dX8_init_68 ?_
    refine k_icmp_geF (pc := 71) hO dX8_init_71 (tgt := 141) (by decide) (by decide) ?_
    refine k_ldcS hO rfl dX8_init_74 ?_
    refine k_iload hO dX8_init_76 0 rfl ?_
    refine k_charAt hO (k := 59) (v := 117) (Nat.le_of_ble_eq_true rfl) rfl rfl w305 (Nat.le_of_ble_eq_true rfl) (Nat.le_of_ble_eq_true rfl) (Nat.le_of_ble_eq_true rfl) (Nat.le_of_ble_eq_true rfl) (Nat.le_of_ble_eq_true rfl) dX8_init_78 ?_
    refine k_istore hO dX8_init_81 (by decide) (lv' := [(6, .int 117), (5, .int 59), (4, .int 2), (3, .int 231), (2, .int 11), (0, .ref h0), (1, .ref p1)]) rfl ?_
    refine k_iload hO dX8_init_83 0 rfl ?_
    refine k_bipush hO dX8_init_85 ic_b_32 ?_
    refine k_icmp_eqF (pc := 87) hO dX8_init_87 (tgt := 109) (by decide) (by decide) ?_
    refine k_bipush hO dX8_init_90 ic_b_27 ?_
    refine k_iload_n hO dX8_init_92 3 rfl rfl ?_
    refine k_imul hO dX8_init_93 (v := 6237) (by decide) ?_
    refine k_iload hO dX8_init_94 0 rfl ?_
    refine k_iadd hO dX8_init_96 (v := 6354) (by decide) ?_
    refine k_bipush hO dX8_init_97 ic_b_97 ?_
    refine k_isub hO dX8_init_99 (v := 6257) (by decide) ?_
    refine k_iconst hO dX8_init_100 ic_i_1 ?_
    refine k_iadd hO dX8_init_101 (v := 6258) (by decide) ?_
    refine k_istore_n hO dX8_init_102 rfl (by decide) (lv' := [(3, .int 6258), (6, .int 117), (5, .int 59), (4, .int 2), (2, .int 11), (0, .ref h0), (1, .ref p1)]) rfl ?_
    refine k_iinc hO dX8_init_103 3 rfl (v := 3) (by decide) (by decide) (lv' := [(4, .int 3), (3, .int 6258), (6, .int 117), (5, .int 59), (2, .int 11), (0, .ref h0), (1, .ref p1)]) rfl ?_
    refine k_goto (pc := 106) hO dX8_init_106 (tgt := 135) (by decide) ?_
    refine k_iinc hO dX8_init_135 3 rfl (v := 60) (by decide) (by decide) (lv' := [(5, .int 60), (4, .int 3), (3, .int 6258), (6, .int 117), (2, .int 11), (0, .ref h0), (1, .ref p1)]) rfl ?_
    refine k_goto (pc := 138) hO dX8_init_138 (tgt := 64) (by decide) ?_
    refine k_iload hO dX8_init_64 0 rfl ?_
    refine k_ldcS hO rfl dX8_init_66 ?_
    refine k_strlen hO w295 (Nat.le_of_ble_eq_true rfl) (Nat.le_of_ble_eq_true rfl) (Nat.le_of_ble_eq_true rfl) (Nat.le_of_ble_eq_true rfl) (Nat.le_of_ble_eq_true rfl) dX8_init_68 ?_
    refine k_icmp_geF (pc := 71) hO dX8_init_71 (tgt := 141) (by decide) (by decide) ?_
    refine k_ldcS hO rfl dX8_init_74 ?_
    refine k_iload hO dX8_init_76 0 rfl ?_
    refine k_charAt hO (k := 60) (v := 114) (Nat.le_of_ble_eq_true rfl) rfl rfl w305 (Nat.le_of_ble_eq_true rfl) (Nat.le_of_ble_eq_true rfl) (Nat.le_of_ble_eq_true rfl) (Nat.le_of_ble_eq_true rfl) (Nat.le_of_ble_eq_true rfl) dX8_init_78 ?_
    refine k_istore hO dX8_init_81 (by decide) (lv' := [(6, .int 114), (5, .int 60), (4, .int 3), (3, .int 6258), (2, .int 11), (0, .ref h0), (1, .ref p1)]) rfl ?_
    refine k_iload hO dX8_init_83 0 rfl ?_
    refine k_bipush hO dX8_init_85 ic_b_32 ?_
    refine k_icmp_eqF (pc := 87) hO dX8_init_87 (tgt := 109) (by decide) (by decide) ?_
    refine k_bipush hO dX8_init_90 ic_b_27 ?_
    refine k_iload_n hO dX8_init_92 3 rfl rfl ?_
    refine k_imul hO dX8_init_93 (v := 168966) (by decide) ?_
    refine k_iload hO dX8_init_94 0 rfl ?_
    refine k_iadd hO dX8_init_96 (v := 169080) (by decide) ?_
    refine k_bipush hO dX8_init_97 ic_b_97 ?_
    refine k_isub hO dX8_init_99 (v := 168983) (by decide) ?_
    refine k_iconst hO dX8_init_100 ic_i_1 ?_
    refine k_iadd hO dX8_init_101 (v := 168984) (by decide) ?_
    refine k_istore_n hO dX8_init_102 rfl (by decide) (lv' := [(3, .int 168984), (6, .int 114), (5, .int 60), (4, .int 3), (2, .int 11), (0, .ref h0), (1, .ref p1)]) rfl ?_
    refine k_iinc hO dX8_init_103 3 rfl (v := 4) (by decide) (by decide) (lv' := [(4, .int 4), (3, .int 168984), (6, .int 114), (5, .int 60), (2, .int 11), (0, .ref h0), (1, .ref p1)]) rfl ?_
    refine k_goto (pc := 106) hO dX8_init_106 (tgt := 135) (by decide) ?_
    refine k_iinc hO dX8_init_135 3 rfl (v := 61) (by decide) (by decide) (lv' := [(5, .int 61), (4, .int 4), (3, .int 168984), (6, .int 114), (2, .int 11), (0, .ref h0), (1, .ref p1)]) rfl ?_
    refine k_goto (pc := 138) hO dX8_init_138 (tgt := 64) (by decide) ?_
    refine k_iload hO dX8_init_64 0 rfl ?_
    refine k_ldcS hO rfl dX8_init_66 ?_
    refine k_strlen hO w295 (Nat.le_of_ble_eq_true rfl) (Nat.le_of_ble_eq_true rfl) (Nat.le_of_ble_eq_true rfl) (Nat.le_of_ble_eq_true rfl) (Nat.le_of_ble_eq_true rfl) dX8_init_68 ?_
    refine k_icmp_geF (pc := 71) hO dX8_init_71 (tgt := 141) (by decide) (by decide) ?_
    refine k_ldcS hO rfl dX8_init_74 ?_
    refine k_iload hO dX8_init_76 0 rfl ?_
    refine k_charAt hO (k := 61) (v := 32) (Nat.le_of_ble_eq_true rfl) rfl rfl w305 (Nat.le_of_ble_eq_true rfl) (Nat.le_of_ble_eq_true rfl) (Nat.le_of_ble_eq_true rfl) (Nat.le_of_ble_eq_true rfl) (Nat.le_of_ble_eq_true rfl) dX8_init_78 ?_
    refine k_istore hO dX8_init_81 (by decide) (lv' := [(6, .int 32), (5, .int 61), (4, .int 4), (3, .int 168984), (2, .int 11), (0, .ref h0), (1, .ref p1)]) rfl ?_
    refine k_iload hO dX8_init_83 0 rfl ?_
    refine k_bipush hO dX8_init_85 ic_b_32 ?_
    refine k_icmp_eqT (pc := 87) hO dX8_init_87 (tgt := 109) (by decide) (by decide) ?_
    refine k_iload_n hO dX8_init_109 4 rfl rfl ?_
    refine k_bipush hO dX8_init_110 ic_b_25 ?_
    refine k_icmp_geF (pc := 112) hO dX8_init_112 (tgt := 135) (by decide) (by decide) ?_
    refine k_aload_n hO dX8_init_115 5 rfl rfl ?_
    refine k_get hO flX8_11 0 rfl (v := .ref q7) rfl dX8_init_116 ?_
    refine k_iload_n hO dX8_init_119 4 rfl rfl ?_
    refine k_iload_n hO dX8_init_120 3 rfl rfl ?_
    refine k_iload hO dX8_init_121 2 rfl ?_
    refine k_fill hO fu_168984_4 w343 (Nat.le_of_ble_eq_true rfl) (Nat.le_of_ble_eq_true rfl) (Nat.le_of_ble_eq_true rfl) (Nat.le_of_ble_eq_true rfl) (Nat.le_of_ble_eq_true rfl) dX8_init_123 ?_
    refine k_iast hO 1 rfl (by decide) (k := 11) (by decide) (ws' := [(h0, .inr (8, [.ref p1, .ref q7, .int 259, .int 0, .int 0, .int 0, .int 0, .int 0, .int (-1)])), (q7, .inl (cy 0, 25, .inl (upd (upd (upd (upd (upd (upd (upd (upd (upd (upd (upd (upd (fun _ => 0) 0 291417210) 1 332864532) 2 173107395) 3 51382989) 4 266274540) 5 294949755) 6 283368645) 7 230359626) 8 115696674) 9 65554785) 10 24977727) 11 123189336)))]) rfl dX8_init_126 ?_
    refine k_iinc hO dX8_init_127 4 rfl (v := 12) (by decide) (by decide) (lv' := [(2, .int 12), (6, .int 32), (5, .int 61), (4, .int 4), (3, .int 168984), (0, .ref h0), (1, .ref p1)]) rfl ?_
    refine k_iconst hO dX8_init_130 ic_i_0 ?_
    refine k_istore_n hO dX8_init_131 rfl (by decide) (lv' := [(3, .int 0), (2, .int 12), (6, .int 32), (5, .int 61), (4, .int 4), (0, .ref h0), (1, .ref p1)]) rfl ?_
    refine k_iconst hO dX8_init_132 ic_i_0 ?_
    refine k_istore hO dX8_init_133 (by decide) (lv' := [(4, .int 0), (3, .int 0), (2, .int 12), (6, .int 32), (5, .int 61), (0, .ref h0), (1, .ref p1)]) rfl ?_
    refine k_iinc hO dX8_init_135 4 rfl (v := 62) (by decide) (by decide) (lv' := [(5, .int 62), (4, .int 0), (3, .int 0), (2, .int 12), (6, .int 32), (0, .ref h0), (1, .ref p1)]) rfl ?_
    refine k_goto (pc := 138) hO dX8_init_138 (tgt := 64) (by decide) ?_
    refine k_iload hO dX8_init_64 0 rfl ?_
    refine k_ldcS hO rfl dX8_init_66 ?_
    refine k_strlen hO w295 (Nat.le_of_ble_eq_true rfl) (Nat.le_of_ble_eq_true rfl) (Nat.le_of_ble_eq_true rfl) (Nat.le_of_ble_eq_true rfl) (Nat.le_of_ble_eq_true rfl) dX8_init_68 ?_
    refine k_icmp_geF (pc := 71) hO dX8_init_71 (tgt := 141) (by decide) (by decide) ?_
    refine k_ldcS hO rfl dX8_init_74 ?_
    refine k_iload hO dX8_init_76 0 rfl ?_
    refine k_charAt hO (k := 62) (v := 115) (Nat.le_of_ble_eq_true rfl) rfl rfl w305 (Nat.le_of_ble_eq_true rfl) (Nat.le_of_ble_eq_true rfl) (Nat.le_of_ble_eq_true rfl) (Nat.le_of_ble_eq_true rfl) (Nat.le_of_ble_eq_true rfl) dX8_init_78 ?_
    refine k_istore hO dX8_init_81 (by decide) (lv' := [(6, .int 115), (5, .int 62), (4, .int 0), (3, .int 0), (2, .int 12), (0, .ref h0), (1, .ref p1)]) rfl ?_
    refine k_iload hO dX8_init_83 0 rfl ?_
    refine k_bipush hO dX8_init_85 ic_b_32 ?_
    refine k_icmp_eqF (pc := 87) hO dX8_init_87 (tgt := 109) (by decide) (by decide) ?_
    refine k_bipush hO dX8_init_90 ic_b_27 ?_
    refine k_iload_n hO dX8_init_92 3 rfl rfl ?_
    refine k_imul hO dX8_init_93 (v := 0) (by decide) ?_
    refine k_iload hO dX8_init_94 0 rfl ?_
    refine k_iadd hO dX8_init_96 (v := 115) (by decide) ?_
    refine k_bipush hO dX8_init_97 ic_b_97 ?_
    refine k_isub hO dX8_init_99 (v := 18) (by decide) ?_
    refine k_iconst hO dX8_init_100 ic_i_1 ?_
    refine k_iadd hO dX8_init_101 (v := 19) (by decide) ?_
    refine k_istore_n hO dX8_init_102 rfl (by decide) (lv' := [(3, .int 19), (6, .int 115), (5, .int 62), (4, .int 0), (2, .int 12), (0, .ref h0), (1, .ref p1)]) rfl ?_
    refine k_iinc hO dX8_init_103 3 rfl (v := 1) (by decide) (by decide) (lv' := [(4, .int 1), (3, .int 19), (6, .int 115), (5, .int 62), (2, .int 12), (0, .ref h0), (1, .ref p1)]) rfl ?_
    refine k_goto (pc := 106) hO dX8_init_106 (tgt := 135) (by decide) ?_
    refine k_iinc hO dX8_init_135 3 rfl (v := 63) (by decide) (by decide) (lv' := [(5, .int 63), (4, .int 1), (3, .int 19), (6, .int 115), (2, .int 12), (0, .ref h0), (1, .ref p1)]) rfl ?_
    refine k_goto (pc := 138) hO dX8_init_138 (tgt := 64) (by decide) ?_
    refine k_iload hO dX8_init_64 0 rfl ?_
    refine k_ldcS hO rfl dX8_init_66 ?_
    refine k_strlen hO w295 (Nat.le_of_ble_eq_true rfl) (Nat.le_of_ble_eq_true rfl) (Nat.le_of_ble_eq_true rfl) (Nat.le_of_ble_eq_true rfl) (Nat.le_of_ble_eq_true rfl) dX8_init_68 ?_
    refine k_icmp_geF (pc := 71) hO dX8_init_71 (tgt := 141) (by decide) (by decide) ?_
    refine k_ldcS hO rfl dX8_init_74 ?_
    refine k_iload hO dX8_init_76 0 rfl ?_
    refine k_charAt hO (k := 63) (v := 97) (Nat.le_of_ble_eq_true rfl) rfl rfl w305 (Nat.le_of_ble_eq_true rfl) (Nat.le_of_ble_eq_true rfl) (Nat.le_of_ble_eq_true rfl) (Nat.le_of_ble_eq_true rfl) (Nat.le_of_ble_eq_true rfl) dX8_init_78 ?_
    refine k_istore hO dX8_init_81 (by decide) (lv' := [(6, .int 97), (5, .int 63), (4, .int 1), (3, .int 19), (2, .int 12), (0, .ref h0), (1, .ref p1)]) rfl ?_
    refine k_iload hO dX8_init_83 0 rfl ?_
    refine k_bipush hO dX8_init_85 ic_b_32 ?_
    refine k_icmp_eqF (pc := 87) hO dX8_init_87 (tgt := 109) (by decide) (by decide) ?_
    refine k_bipush hO dX8_init_90 ic_b_27 ?_
    refine k_iload_n hO dX8_init_92 3 rfl rfl ?_
    refine k_imul hO dX8_init_93 (v := 513) (by decide) ?_
    refine k_iload hO dX8_init_94 0 rfl ?_
    refine k_iadd hO dX8_init_96 (v := 610) (by decide) ?_
    refine k_bipush hO dX8_init_97 ic_b_97 ?_
    refine k_isub hO dX8_init_99 (v := 513) (by decide) ?_
    refine k_iconst hO dX8_init_100 ic_i_1 ?_
    refine k_iadd hO dX8_init_101 (v := 514) (by decide) ?_
    refine k_istore_n hO dX8_init_102 rfl (by decide) (lv' := [(3, .int 514), (6, .int 97), (5, .int 63), (4, .int 1), (2, .int 12), (0, .ref h0), (1, .ref p1)]) rfl ?_
    refine k_iinc hO dX8_init_103 3 rfl (v := 2) (by decide) (by decide) (lv' := [(4, .int 2), (3, .int 514), (6, .int 97), (5, .int 63), (2, .int 12), (0, .ref h0), (1, .ref p1)]) rfl ?_
    refine k_goto (pc := 106) hO dX8_init_106 (tgt := 135) (by decide) ?_
    refine k_iinc hO dX8_init_135 3 rfl (v := 64) (by decide) (by decide) (lv' := [(5, .int 64), (4, .int 2), (3, .int 514), (6, .int 97), (2, .int 12), (0, .ref h0), (1, .ref p1)]) rfl ?_
    refine k_goto (pc := 138) hO dX8_init_138 (tgt := 64) (by decide) ?_
    refine k_iload hO dX8_init_64 0 rfl ?_
    refine k_ldcS hO rfl dX8_init_66 ?_
    refine k_strlen hO w295 (Nat.le_of_ble_eq_true rfl) (Nat.le_of_ble_eq_true rfl) (Nat.le_of_ble_eq_true rfl) (Nat.le_of_ble_eq_true rfl) (Nat.le_of_ble_eq_true rfl) dX8_init_68 ?_
    refine k_icmp_geF (pc := 71) hO dX8_init_71 (tgt := 141) (by decide) (by decide) ?_
    refine k_ldcS hO rfl dX8_init_74 ?_
    refine k_iload hO dX8_init_76 0 rfl ?_
    refine k_charAt hO (k := 64) (v := 121) (Nat.le_of_ble_eq_true rfl) rfl rfl w305 (Nat.le_of_ble_eq_true rfl) (Nat.le_of_ble_eq_true rfl) (Nat.le_of_ble_eq_true rfl) (Nat.le_of_ble_eq_true rfl) (Nat.le_of_ble_eq_true rfl) dX8_init_78 ?_
    refine k_istore hO dX8_init_81 (by decide) (lv' := [(6, .int 121), (5, .int 64), (4, .int 2), (3, .int 514), (2, .int 12), (0, .ref h0), (1, .ref p1)]) rfl ?_
    refine k_iload hO dX8_init_83 0 rfl ?_
    refine k_bipush hO dX8_init_85 ic_b_32 ?_
    refine k_icmp_eqF (pc := 87) hO dX8_init_87 (tgt := 109) (by decide) (by decide) ?_
    refine k_bipush hO dX8_init_90 ic_b_27 ?_
    refine k_iload_n hO dX8_init_92 3 rfl rfl ?_
    refine k_imul hO dX8_init_93 (v := 13878) (by decide) ?_
    refine k_iload hO dX8_init_94 0 rfl ?_
    refine k_iadd hO dX8_init_96 (v := 13999) (by decide) ?_
    refine k_bipush hO dX8_init_97 ic_b_97 ?_
    refine k_isub hO dX8_init_99 (v := 13902) (by decide) ?_
    refine k_iconst hO dX8_init_100 ic_i_1 ?_
    refine k_iadd hO dX8_init_101 (v := 13903) (by decide) ?_
    refine k_istore_n hO dX8_init_102 rfl (by decide) (lv' := [(3, .int 13903), (6, .int 121), (5, .int 64), (4, .int 2), (2, .int 12), (0, .ref h0), (1, .ref p1)]) rfl ?_
    refine k_iinc hO dX8_init_103 3 rfl (v := 3) (by decide) (by decide) (lv' := [(4, .int 3), (3, .int 13903), (6, .int 121), (5, .int 64), (2, .int 12), (0, .ref h0), (1, .ref p1)]) rfl ?_
    refine k_goto (pc := 106) hO dX8_init_106 (tgt := 135) (by decide) ?_
    refine k_iinc hO dX8_init_135 3 rfl (v := 65) (by decide) (by decide) (lv' := [(5, .int 65), (4, .int 3), (3, .int 13903), (6, .int 121), (2, .int 12), (0, .ref h0), (1, .ref p1)]) rfl ?_
    refine k_goto (pc := 138) hO dX8_init_138 (tgt := 64) (by decide) ?_
    refine k_iload hO dX8_init_64 0 rfl ?_
    refine k_ldcS hO rfl dX8_init_66 ?_
    refine k_strlen hO w295 (Nat.le_of_ble_eq_true rfl) (Nat.le_of_ble_eq_true rfl) (Nat.le_of_ble_eq_true rfl) (Nat.le_of_ble_eq_true rfl) (Nat.le_of_ble_eq_true rfl) dX8_init_68 ?_
    refine k_icmp_geF (pc := 71) hO dX8_init_71 (tgt := 141) (by decide) (by decide) ?_
    refine k_ldcS hO rfl dX8_init_74 ?_
    refine k_iload hO dX8_init_76 0 rfl ?_
    refine k_charAt hO (k := 65) (v := 115) (Nat.le_of_ble_eq_true rfl) rfl rfl w305 (Nat.le_of_ble_eq_true rfl) (Nat.le_of_ble_eq_true rfl) (Nat.le_of_ble_eq_true rfl) (Nat.le_of_ble_eq_true rfl) (Nat.le_of_ble_eq_true rfl) dX8_init_78 ?_
    refine k_istore hO dX8_init_81 (by decide) (lv' := [(6, .int 115), (5, .int 65), (4, .int 3), (3, .int 13903), (2, .int 12), (0, .ref h0), (1, .ref p1)]) rfl ?_
    refine k_iload hO dX8_init_83 0 rfl ?_
    refine k_bipush hO dX8_init_85 ic_b_32 ?_
    refine k_icmp_eqF (pc := 87) hO dX8_init_87 (tgt := 109) (by decide) (by decide) ?_
    refine k_bipush hO dX8_init_90 ic_b_27 ?_
    refine k_iload_n hO dX8_init_92 3 rfl rfl ?_
    refine k_imul hO dX8_init_93 (v := 375381) (by decide) ?_
    refine k_iload hO dX8_init_94 0 rfl ?_
    refine k_iadd hO dX8_init_96 (v := 375496) (by decide) ?_
    refine k_bipush hO dX8_init_97 ic_b_97 ?_
    refine k_isub hO dX8_init_99 (v := 375399) (by decide) ?_
    refine k_iconst hO dX8_init_100 ic_i_1 ?_
    refine k_iadd hO dX8_init_101 (v := 375400) (by decide) ?_
    refine k_istore_n hO dX8_init_102 rfl (by decide) (lv' := [(3, .int 375400), (6, .int 115), (5, .int 65), (4, .int 3), (2, .int 12), (0, .ref h0), (1, .ref p1)]) rfl ?_
    refine k_iinc hO dX8_init_103 3 rfl (v := 4) (by decide) (by decide) (lv' := [(4, .int 4), (3, .int 375400), (6, .int 115), (5, .int 65), (2, .int 12), (0, .ref h0), (1, .ref p1)]) rfl ?_
    refine k_goto (pc := 106) hO dX8_init_106 (tgt := 135) (by decide) ?_
    refine k_iinc hO dX8_init_135 3 rfl (v := 66) (by decide) (by decide) (lv' := [(5, .int 66), (4, .int 4), (3, .int 375400), (6, .int 115), (2, .int 12), (0, .ref h0), (1, .ref p1)]) rfl ?_
    refine k_goto (pc := 138) hO dX8_init_138 (tgt := 64) (by decide) ?_
    refine k_iload hO dX8_init_64 0 rfl ?_
    refine k_ldcS hO rfl dX8_init_66 ?_
    refine k_strlen hO w295 (Nat.le_of_ble_eq_true rfl) (Nat.le_of_ble_eq_true rfl) (Nat.le_of_ble_eq_true rfl) (Nat.le_of_ble_eq_true rfl) (Nat.le_of_ble_eq_true rfl) dX8_init_68 ?_
    refine k_icmp_geF (pc := 71) hO dX8_init_71 (tgt := 141) (by decide) (by decide) ?_
    refine k_ldcS hO rfl dX8_init_74 ?_
    refine k_iload hO dX8_init_76 0 rfl ?_
    refine k_charAt hO (k := 66) (v := 32) (Nat.le_of_ble_eq_true rfl) rfl rfl w305 (Nat.le_of_ble_eq_true rfl) (Nat.le_of_ble_eq_true rfl) (Nat.le_of_ble_eq_true rfl) (Nat.le_of_ble_eq_true rfl) (Nat.le_of_ble_eq_true rfl) dX8_init_78 ?_
    refine k_istore hO dX8_init_81 (by decide) (lv' := [(6, .int 32), (5, .int 66), (4, .int 4), (3, .int 375400), (2, .int 12), (0, .ref h0), (1, .ref p1)]) rfl ?_
    refine k_iload hO dX8_init_83 0 rfl ?_
    refine k_bipush hO dX8_init_85 ic_b_32 ?_
    refine k_icmp_eqT (pc := 87) hO dX8_init_87 (tgt := 109) (by decide) (by decide) ?_
    refine k_iload_n hO dX8_init_109 4 rfl rfl ?_
    refine k_bipush hO dX8_init_110 ic_b_25 ?_
    refine k_icmp_geF (pc := 112) hO dX8_init_112 (tgt := 135) (by decide) (by decide) ?_
    refine k_aload_n hO dX8_init_115 5 rfl rfl ?_
    refine k_get hO flX8_11 0 rfl (v := .ref q7) rfl dX8_init_116 ?_
    refine k_iload_n hO dX8_init_119 4 rfl rfl ?_
    refine k_iload_n hO dX8_init_120 3 rfl rfl ?_
    refine k_iload hO dX8_init_121 2 rfl ?_
    refine k_fill hO fu_375400_4 w343 (Nat.le_of_ble_eq_true rfl) (Nat.le_of_ble_eq_true rfl) (Nat.le_of_ble_eq_true rfl) (Nat.le_of_ble_eq_true rfl) (Nat.le_of_ble_eq_true rfl) dX8_init_123 ?_
    refine k_iast hO 1 rfl (by decide) (k := 12) (by decide) (ws' := [(h0, .inr (8, [.ref p1, .ref q7, .int 259, .int 0, .int 0, .int 0, .int 0, .int 0, .int (-1)])), (q7, .inl (cy 0, 25, .inl (upd (upd (upd (upd (upd (upd (upd (upd (upd (upd (upd (upd (upd (fun _ => 0) 0 291417210) 1 332864532) 2 173107395) 3 51382989) 4 266274540) 5 294949755) 6 283368645) 7 230359626) 8 115696674) 9 65554785) 10 24977727) 11 123189336) 12 273666600)))]) rfl dX8_init_126 ?_
    refine k_iinc hO dX8_init_127 4 rfl (v := 13) (by decide) (by decide) (lv' := [(2, .int 13), (6, .int 32), (5, .int 66), (4, .int 4), (3, .int 375400), (0, .ref h0), (1, .ref p1)]) rfl ?_
    refine k_iconst hO dX8_init_130 ic_i_0 ?_
    refine k_istore_n hO dX8_init_131 rfl (by decide) (lv' := [(3, .int 0), (2, .int 13), (6, .int 32), (5, .int 66), (4, .int 4), (0, .ref h0), (1, .ref p1)]) rfl ?_
    refine k_iconst hO dX8_init_132 ic_i_0 ?_
    refine k_istore hO dX8_init_133 (by decide) (lv' := [(4, .int 0), (3, .int 0), (2, .int 13), (6, .int 32), (5, .int 66), (0, .ref h0), (1, .ref p1)]) rfl ?_
    refine k_iinc hO dX8_init_135 4 rfl (v := 67) (by decide) (by decide) (lv' := [(5, .int 67), (4, .int 0), (3, .int 0), (2, .int 13), (6, .int 32), (0, .ref h0), (1, .ref p1)]) rfl ?_
    refine k_goto (pc := 138) hO dX8_init_138 (tgt := 64) (by decide) ?_
    refine k_iload hO dX8_init_64 0 rfl ?_
    refine k_ldcS hO rfl dX8_init_66 ?_
    refine k_strlen hO w295 (Nat.le_of_ble_eq_true rfl) (Nat.le_of_ble_eq_true rfl) (Nat.le_of_ble_eq_true rfl) (Nat.le_of_ble_eq_true rfl) (Nat.le_of_ble_eq_true rfl) dX8_init_68 ?_
    refine k_icmp_geF (pc := 71) hO dX8_init_71 (tgt := 141) (by decide) (by decide) ?_
    refine k_ldcS hO rfl dX8_init_74 ?_
    refine k_iload hO dX8_init_76 0 rfl ?_
    refine k_charAt hO (k := 67) (v := 103) (Nat.le_of_ble_eq_true rfl) rfl rfl w305 (Nat.le_of_ble_eq_true rfl) (Nat.le_of_ble_eq_true rfl) (Nat.le_of_ble_eq_true rfl) (Nat.le_of_ble_eq_true rfl) (Nat.le_of_ble_eq_true rfl) dX8_init_78 ?_
    refine k_istore hO dX8_init_81 (by decide) (lv' := [(6, .int 103), (5, .int 67), (4, .int 0), (3, .int 0), (2, .int 13), (0, .ref h0), (1, .ref p1)]) rfl ?_
    refine k_iload hO dX8_init_83 0 rfl ?_
    refine k_bipush hO dX8_init_85 ic_b_32 ?_
    refine k_icmp_eqF (pc := 87) hO dX8_init_87 (tgt := 109) (by decide) (by decide) ?_
    refine k_bipush hO dX8_init_90 ic_b_27 ?_
    refine k_iload_n hO dX8_init_92 3 rfl rfl ?_
    refine k_imul hO dX8_init_93 (v := 0) (by decide) ?_
    refine k_iload hO dX8_init_94 0 rfl ?_
    refine k_iadd hO dX8_init_96 (v := 103) (by decide) ?_
    refine k_bipush hO dX8_init_97 ic_b_97 ?_
    refine k_isub hO dX8_init_99 (v := 6) (by decide) ?_
    refine k_iconst hO dX8_init_100 ic_i_1 ?_
    refine k_iadd hO dX8_init_101 (v := 7) (by decide) ?_
    refine k_istore_n hO dX8_init_102 rfl (by decide) (lv' := [(3, .int 7), (6, .int 103), (5, .int 67), (4, .int 0), (2, .int 13), (0, .ref h0), (1, .ref p1)]) rfl ?_
    refine k_iinc hO dX8_init_103 3 rfl (v := 1) (by decide) (by decide) (lv' := [(4, .int 1), (3, .int 7), (6, .int 103), (5, .int 67), (2, .int 13), (0, .ref h0), (1, .ref p1)]) rfl ?_
    refine k_goto (pc := 106) hO dX8_init_106 (tgt := 135) (by decide) ?_
    refine k_iinc hO dX8_init_135 3 rfl (v := 68) (by decide) (by decide) (lv' := [(5, .int 68), (4, .int 1), (3, .int 7), (6, .int 103), (2, .int 13), (0, .ref h0), (1, .ref p1)]) rfl ?_
    refine k_goto (pc := 138) hO dX8_init_138 (tgt := 64) (by decide) ?_
    refine k_iload hO dX8_init_64 0 rfl ?_
    refine k_ldcS hO rfl dX8_init_66 ?_
    refine k_strlen hO w295 (Nat.le_of_ble_eq_true rfl) (Nat.le_of_ble_eq_true rfl) (Nat.le_of_ble_eq_true rfl) (Nat.le_of_ble_eq_true rfl) (Nat.le_of_ble_eq_true rfl) dX8_init_68 ?_
    refine k_icmp_geF (pc := 71) hO dX8_init_71 (tgt := 141) (by decide) (by decide) ?_
    refine k_ldcS hO rfl dX8_init_74 ?_
    refine k_iload hO dX8_init_76 0 rfl ?_
    refine k_charAt hO (k := 68) (v := 111) (Nat.le_of_ble_eq_true rfl) rfl rfl w305 (Nat.le_of_ble_eq_true rfl) (Nat.le_of_ble_eq_true rfl) (Nat.le_of_ble_eq_true rfl) (Nat.le_of_ble_eq_true rfl) (Nat.le_of_ble_eq_true rfl) dX8_init_78 ?_
    refine k_istore hO dX8_init_81 (by decide) (lv' := [(6, .int 111), (5, .int 68), (4, .int 1), (3, .int 7), (2, .int 13), (0, .ref h0), (1, .ref p1)]) rfl ?_
    refine k_iload hO dX8_init_83 0 rfl ?_
    refine k_bipush hO dX8_init_85 ic_b_32 ?_
    refine k_icmp_eqF (pc := 87) hO dX8_init_87 (tgt := 109) (by decide) (by decide) ?_
    refine k_bipush hO dX8_init_90 ic_b_27 ?_
    refine k_iload_n hO dX8_init_92 3 rfl rfl ?_
    refine k_imul hO dX8_init_93 (v := 189) (by decide) ?_
    refine k_iload hO dX8_init_94 0 rfl ?_
    refine k_iadd hO dX8_init_96 (v := 300) (by decide) ?_
    refine k_bipush hO dX8_init_97 ic_b_97 ?_
    refine k_isub hO dX8_init_99 (v := 203) (by decide) ?_
    refine k_iconst hO dX8_init_100 ic_i_1 ?_
    refine k_iadd hO dX8_init_101 (v := 204) (by decide) ?_
    refine k_istore_n hO dX8_init_102 rfl (by decide) (lv' := [(3, .int 204), (6, .int 111), (5, .int 68), (4, .int 1), (2, .int 13), (0, .ref h0), (1, .ref p1)]) rfl ?_
    refine k_iinc hO dX8_init_103 3 rfl (v := 2) (by decide) (by decide) (lv' := [(4, .int 2), (3, .int 204), (6, .int 111), (5, .int 68), (2, .int 13), (0, .ref h0), (1, .ref p1)]) rfl ?_
    refine k_goto (pc := 106) hO dX8_init_106 (tgt := 135) (by decide) ?_
    refine k_iinc hO dX8_init_135 3 rfl (v := 69) (by decide) (by decide) (lv' := [(5, .int 69), (4, .int 2), (3, .int 204), (6, .int 111), (2, .int 13), (0, .ref h0), (1, .ref p1)]) rfl ?_
    refine k_goto (pc := 138) hO dX8_init_138 (tgt := 64) (by decide) ?_
    refine k_iload hO dX8_init_64 0 rfl ?_
    refine k_ldcS hO rfl dX8_init_66 ?_
    refine k_strlen hO w295 (Nat.le_of_ble_eq_true rfl) (Nat.le_of_ble_eq_true rfl) (Nat.le_of_ble_eq_true rfl) (Nat.le_of_ble_eq_true rfl) (Nat.le_of_ble_eq_true rfl) dX8_init_68 ?_
    refine k_icmp_geF (pc := 71) hO dX8_init_71 (tgt := 141) (by decide) (by decide) ?_
    refine k_ldcS hO rfl dX8_init_74 ?_
    refine k_iload hO dX8_init_76 0 rfl ?_
    refine k_charAt hO (k := 69) (v := 110) (Nat.le_of_ble_eq_true rfl) rfl rfl w305 (Nat.le_of_ble_eq_true rfl) (Nat.le_of_ble_eq_true rfl) (Nat.le_of_ble_eq_true rfl) (Nat.le_of_ble_eq_true rfl) (Nat.le_of_ble_eq_true rfl) dX8_init_78 ?_
    refine k_istore hO dX8_init_81 (by decide) (lv' := [(6, .int 110), (5, .int 69), (4, .int 2), (3, .int 204), (2, .int 13), (0, .ref h0), (1, .ref p1)]) rfl ?_
    refine k_iload hO dX8_init_83 0 rfl ?_
    refine k_bipush hO dX8_init_85 ic_b_32 ?_
    refine k_icmp_eqF (pc := 87) hO dX8_init_87 (tgt := 109) (by decide) (by decide) ?_
    refine k_bipush hO dX8_init_90 ic_b_27 ?_
    refine k_iload_n hO dX8_init_92 3 rfl rfl ?_
    refine k_imul hO dX8_init_93 (v := 5508) (by decide) ?_
    refine k_iload hO dX8_init_94 0 rfl ?_
    refine k_iadd hO dX8_init_96 (v := 5618) (by decide) ?_
    refine k_bipush hO dX8_init_97 ic_b_97 ?_
    refine k_isub hO dX8_init_99 (v := 5521) (by decide) ?_
    refine k_iconst hO dX8_init_100 ic_i_1 ?_
    refine k_iadd hO dX8_init_101 (v := 5522) (by decide) ?_
    refine k_istore_n hO dX8_init_102 rfl (by decide) (lv' := [(3, .int 5522), (6, .int 110), (5, .int 69), (4, .int 2), (2, .int 13), (0, .ref h0), (1, .ref p1)]) rfl ?_
    refine k_iinc hO dX8_init_103 3 rfl (v := 3) (by decide) (by decide) (lv' := [(4, .int 3), (3, .int 5522), (6, .int 110), (5, .int 69), (2, .int 13), (0, .ref h0), (1, .ref p1)]) rfl ?_
    refine k_goto (pc := 106) hO dX8_init_106 (tgt := 135) (by decide) ?_
    refine k_iinc hO dX8_init_135 3 rfl (v := 70) (by decide) (by decide) (lv' := [(5, .int 70), (4, .int 3), (3, .int 5522), (6, .int 110), (2, .int 13), (0, .ref h0), (1, .ref p1)]) rfl ?_
    refine k_goto (pc := 138) hO dX8_init_138 (tgt := 64) (by decide) ?_
    refine k_iload hO dX8_init_64 0 rfl ?_
    refine k_ldcS hO rfl dX8_init_66 ?_
    refine k_strlen hO w295 (Nat.le_of_ble_eq_true rfl) (Nat.le_of_ble_eq_true rfl) (Nat.le_of_ble_eq_true rfl) (Nat.le_of_ble_eq_true rfl) (Nat.le_of_ble_eq_true rfl) dX8_init_68 ?_
    refine k_icmp_geF (pc := 71) hO dX8_init_71 (tgt := 141) (by decide) (by decide) ?_
    refine k_ldcS hO rfl dX8_init_74 ?_
    refine k_iload hO dX8_init_76 0 rfl ?_
    refine k_charAt hO (k := 70) (v := 101) (Nat.le_of_ble_eq_true rfl) rfl rfl w305 (Nat.le_of_ble_eq_true rfl) (Nat.le_of_ble_eq_true rfl) (Nat.le_of_ble_eq_true rfl) (Nat.le_of_ble_eq_true rfl) (Nat.le_of_ble_eq_true rfl) dX8_init_78 ?_
    refine k_istore hO dX8_init_81 (by decide) (lv' := [(6, .int 101), (5, .int 70), (4, .int 3), (3, .int 5522), (2, .int 13), (0, .ref h0), (1, .ref p1)]) rfl ?_
    refine k_iload hO dX8_init_83 0 rfl ?_
    refine k_bipush hO dX8_init_85 ic_b_32 ?_
    refine k_icmp_eqF (pc := 87) hO dX8_init_87 (tgt := 109) (by decide) (by decide) ?_
    refine k_bipush hO dX8_init_90 ic_b_27 ?_
    refine k_iload_n hO dX8_init_92 3 rfl rfl ?_
    refine k_imul hO dX8_init_93 (v := 149094) (by decide) ?_
    refine k_iload hO dX8_init_94 0 rfl ?_
    refine k_iadd hO dX8_init_96 (v := 149195) (by decide) ?_
    refine k_bipush hO dX8_init_97 ic_b_97 ?_
    refine k_isub hO dX8_init_99 (v := 149098) (by decide) ?_
    refine k_iconst hO dX8_init_100 ic_i_1 ?_
    refine k_iadd hO dX8_init_101 (v := 149099) (by decide) ?_
    refine k_istore_n hO dX8_init_102 rfl (by decide) (lv' := [(3, .int 149099), (6, .int 101), (5, .int 70), (4, .int 3), (2, .int 13), (0, .ref h0), (1, .ref p1)]) rfl ?_
    refine k_iinc hO dX8_init_103 3 rfl (v := 4) (by decide) (by decide) (lv' := [(4, .int 4), (3, .int 149099), (6, .int 101), (5, .int 70), (2, .int 13), (0, .ref h0), (1, .ref p1)]) rfl ?_
    refine k_goto (pc := 106) hO dX8_init_106 (tgt := 135) (by decide) ?_
    refine k_iinc hO dX8_init_135 3 rfl (v := 71) (by decide) (by decide) (lv' := [(5, .int 71), (4, .int 4), (3, .int 149099), (6, .int 101), (2, .int 13), (0, .ref h0), (1, .ref p1)]) rfl ?_
    refine k_goto (pc := 138) hO dX8_init_138 (tgt := 64) (by decide) ?_
    refine k_iload hO dX8_init_64 0 rfl ?_
    refine k_ldcS hO rfl dX8_init_66 ?_
    refine k_strlen hO w295 (Nat.le_of_ble_eq_true rfl) (Nat.le_of_ble_eq_true rfl) (Nat.le_of_ble_eq_true rfl) (Nat.le_of_ble_eq_true rfl) (Nat.le_of_ble_eq_true rfl) dX8_init_68 ?_
    refine k_icmp_geF (pc := 71) hO dX8_init_71 (tgt := 141) (by decide) (by decide) ?_
    refine k_ldcS hO rfl dX8_init_74 ?_
    refine k_iload hO dX8_init_76 0 rfl ?_
    refine k_charAt hO (k := 71) (v := 32) (Nat.le_of_ble_eq_true rfl) rfl rfl w305 (Nat.le_of_ble_eq_true rfl) (Nat.le_of_ble_eq_true rfl) (Nat.le_of_ble_eq_true rfl) (Nat.le_of_ble_eq_true rfl) (Nat.le_of_ble_eq_true rfl) dX8_init_78 ?_
    refine k_istore hO dX8_init_81 (by decide) (lv' := [(6, .int 32), (5, .int 71), (4, .int 4), (3, .int 149099), (2, .int 13), (0, .ref h0), (1, .ref p1)]) rfl ?_
    refine k_iload hO dX8_init_83 0 rfl ?_
    refine k_bipush hO dX8_init_85 ic_b_32 ?_
    refine k_icmp_eqT (pc := 87) hO dX8_init_87 (tgt := 109) (by decide) (by decide) ?_
    refine k_iload_n hO dX8_init_109 4 rfl rfl ?_
    refine k_bipush hO dX8_init_110 ic_b_25 ?_
    refine k_icmp_geF (pc := 112) hO dX8_init_112 (tgt := 135) (by decide) (by decide) ?_
    refine k_aload_n hO dX8_init_115 5 rfl rfl ?_
    refine k_get hO flX8_11 0 rfl (v := .ref q7) rfl dX8_init_116 ?_
    refine k_iload_n hO dX8_init_119 4 rfl rfl ?_
    refine k_iload_n hO dX8_init_120 3 rfl rfl ?_
    refine k_iload hO dX8_init_121 2 rfl ?_
    refine k_fill hO fu_149099_4 w343 (Nat.le_of_ble_eq_true rfl) (Nat.le_of_ble_eq_true rfl) (Nat.le_of_ble_eq_true rfl) (Nat.le_of_ble_eq_true rfl) (Nat.le_of_ble_eq_true rfl) dX8_init_123 ?_
    refine k_iast hO 1 rfl (by decide) (k := 13) (by decide) (ws' := [(h0, .inr (8, [.ref p1, .ref q7, .int 259, .int 0, .int 0, .int 0, .int 0, .int 0, .int (-1)])), (q7, .inl (cy 0, 25, .inl (upd (upd (upd (upd (upd (upd (upd (upd (upd (upd (upd (upd (upd (upd (fun _ => 0) 0 291417210) 1 332864532) 2 173107395) 3 51382989) 4 266274540) 5 294949755) 6 283368645) 7 230359626) 8 115696674) 9 65554785) 10 24977727) 11 123189336) 12 273666600) 13 108693171)))]) rfl dX8_init_126 ?_
    refine k_iinc hO dX8_init_127 4 rfl (v := 14) (by decide) (by decide) (lv' := [(2, .int 14), (6, .int 32), (5, .int 71), (4, .int 4), (3, .int 149099), (0, .ref h0), (1, .ref p1)]) rfl ?_
    refine k_iconst hO dX8_init_130 ic_i_0 ?_
    refine k_istore_n hO dX8_init_131 rfl (by decide) (lv' := [(3, .int 0), (2, .int 14), (6, .int 32), (5, .int 71), (4, .int 4), (0, .ref h0), (1, .ref p1)]) rfl ?_
    refine k_iconst hO dX8_init_132 ic_i_0 ?_
    refine k_istore hO dX8_init_133 (by decide) (lv' := [(4, .int 0), (3, .int 0), (2, .int 14), (6, .int 32), (5, .int 71), (0, .ref h0), (1, .ref p1)]) rfl ?_
    refine k_iinc hO dX8_init_135 4 rfl (v := 72) (by decide) (by decide) (lv' := [(5, .int 72), (4, .int 0), (3, .int 0), (2, .int 14), (6, .int 32), (0, .ref h0), (1, .ref p1)]) rfl ?_
    refine k_goto (pc := 138) hO dX8_init_138 (tgt := 64) (by decide) ?_
    refine k_iload hO dX8_init_64 0 rfl ?_
    refine k_ldcS hO rfl dX8_init_66 ?_
    refine k_strlen hO w295 (Nat.le_of_ble_eq_true rfl) (Nat.le_of_ble_eq_true rfl) (Nat.le_of_ble_eq_true rfl) (Nat.le_of_ble_eq_true rfl) (Nat.le_of_ble_eq_true rfl) dX8_init_68 ?_
    refine k_icmp_geF (pc := 71) hO dX8_init_71 (tgt := 141) (by decide) (by decide) ?_
    refine k_ldcS hO rfl dX8_init_74 ?_
    refine k_iload hO dX8_init_76 0 rfl ?_
    refine k_charAt hO (k := 72) (v := 112) (Nat.le_of_ble_eq_true rfl) rfl rfl w305 (Nat.le_of_ble_eq_true rfl) (Nat.le_of_ble_eq_true rfl) (Nat.le_of_ble_eq_true rfl) (Nat.le_of_ble_eq_true rfl) (Nat.le_of_ble_eq_true rfl) dX8_init_78 ?_
    refine k_istore hO dX8_init_81 (by decide) (lv' := [(6, .int 112), (5, .int 72), (4, .int 0), (3, .int 0), (2, .int 14), (0, .ref h0), (1, .ref p1)]) rfl ?_
    refine k_iload hO dX8_init_83 0 rfl ?_
    refine k_bipush hO dX8_init_85 ic_b_32 ?_
    refine k_icmp_eqF (pc := 87) hO dX8_init_87 (tgt := 109) (by decide) (by decide) ?_
    refine k_bipush hO dX8_init_90 ic_b_27 ?_
    refine k_iload_n hO dX8_init_92 3 rfl rfl ?_
    refine k_imul hO dX8_init_93 (v := 0) (by decide) ?_
    refine k_iload hO dX8_init_94 0 rfl ?_
    refine k_iadd hO dX8_init_96 (v := 112) (by decide) ?_
    refine k_bipush hO dX8_init_97 ic_b_97 ?_
    refine k_isub hO dX8_init_99 (v := 15) (by decide) ?_
    refine k_iconst hO dX8_init_100 ic_i_1 ?_
    refine k_iadd hO dX8_init_101 (v := 16) (by decide) ?_
    refine k_istore_n hO dX8_init_102 rfl (by decide) (lv' := [(3, .int 16), (6, .int 112), (5, .int 72), (4, .int 0), (2, .int 14), (0, .ref h0), (1, .ref p1)]) rfl ?_
    refine k_iinc hO dX8_init_103 3 rfl (v := 1) (by decide) (by decide) (lv' := [(4, .int 1), (3, .int 16), (6, .int 112), (5, .int 72), (2, .int 14), (0, .ref h0), (1, .ref p1)]) rfl ?_
    refine k_goto (pc := 106) hO dX8_init_106 (tgt := 135) (by decide) ?_
    refine k_iinc hO dX8_init_135 3 rfl (v := 73) (by decide) (by decide) (lv' := [(5, .int 73), (4, .int 1), (3, .int 16), (6, .int 112), (2, .int 14), (0, .ref h0), (1, .ref p1)]) rfl ?_
    refine k_goto (pc := 138) hO dX8_init_138 (tgt := 64) (by decide) ?_
    refine k_iload hO dX8_init_64 0 rfl ?_
    refine k_ldcS hO rfl dX8_init_66 ?_
    refine k_strlen hO w295 (Nat.le_of_ble_eq_true rfl) (Nat.le_of_ble_eq_true rfl) (Nat.le_of_ble_eq_true rfl) (Nat.le_of_ble_eq_true rfl) (Nat.le_of_ble_eq_true rfl) dX8_init_68 ?_
    refine k_icmp_geF (pc := 71) hO dX8_init_71 (tgt := 141) (by decide) (by decide) ?_
    refine k_ldcS hO rfl dX8_init_74 ?_
    refine k_iload hO dX8_init_76 0 rfl ?_
    refine k_charAt hO (k := 73) (v := 97) (Nat.le_of_ble_eq_true rfl) rfl rfl w305 (Nat.le_of_ble_eq_true rfl) (Nat.le_of_ble_eq_true rfl) (Nat.le_of_ble_eq_true rfl) (Nat.le_of_ble_eq_true rfl) (Nat.le_of_ble_eq_true rfl) dX8_init_78 ?_
    refine k_istore hO dX8_init_81 (by decide) (lv' := [(6, .int 97), (5, .int 73), (4, .int 1), (3, .int 16), (2, .int 14), (0, .ref h0), (1, .ref p1)]) rfl ?_
    refine k_iload hO dX8_init_83 0 rfl ?_
    refine k_bipush hO dX8_init_85 ic_b_32 ?_
    refine k_icmp_eqF (pc := 87) hO dX8_init_87 (tgt := 109) (by decide) (by decide) ?_
    refine k_bipush hO dX8_init_90 ic_b_27 ?_
    refine k_iload_n hO dX8_init_92 3 rfl rfl ?_
    refine k_imul hO dX8_init_93 (v := 432) (by decide) ?_
    refine k_iload hO dX8_init_94 0 rfl ?_
    refine k_iadd hO dX8_init_96 (v := 529) (by decide) ?_
    refine k_bipush hO dX8_init_97 ic_b_97 ?_
    refine k_isub hO dX8_init_99 (v := 432) (by decide) ?_
    refine k_iconst hO dX8_init_100 ic_i_1 ?_
    refine k_iadd hO dX8_init_101 (v := 433) (by decide) ?_
    refine k_istore_n hO dX8_init_102 rfl (by decide) (lv' := [(3, .int 433), (6, .int 97), (5, .int 73), (4, .int 1), (2, .int 14), (0, .ref h0), (1, .ref p1)]) rfl ?_
    refine k_iinc hO dX8_init_103 3 rfl (v := 2) (by decide) (by decide) (lv' := [(4, .int 2), (3, .int 433), (6, .int 97), (5, .int 73), (2, .int 14), (0, .ref h0), (1, .ref p1)]) rfl ?_
    refine k_goto (pc := 106) hO dX8_init_106 (tgt := 135) (by decide) ?_
    refine k_iinc hO dX8_init_135 3 rfl (v := 74) (by decide) (by decide) (lv' := [(5, .int 74), (4, .int 2), (3, .int 433), (6, .int 97), (2, .int 14), (0, .ref h0), (1, .ref p1)]) rfl ?_
    refine k_goto (pc := 138) hO dX8_init_138 (tgt := 64) (by decide) ?_
    refine k_iload hO dX8_init_64 0 rfl ?_
    refine k_ldcS hO rfl dX8_init_66 ?_
    refine k_strlen hO w295 (Nat.le_of_ble_eq_true rfl) (Nat.le_of_ble_eq_true rfl) (Nat.le_of_ble_eq_true rfl) (Nat.le_of_ble_eq_true rfl) (Nat.le_of_ble_eq_true rfl) dX8_init_68 ?_
    refine k_icmp_geF (pc := 71) hO dX8_init_71 (tgt := 141) (by decide) (by decide) ?_
    refine k_ldcS hO rfl dX8_init_74 ?_
    refine k_iload hO dX8_init_76 0 rfl ?_
    refine k_charAt hO (k := 74) (v := 115) (Nat.le_of_ble_eq_true rfl) rfl rfl w305 (Nat.le_of_ble_eq_true rfl) (Nat.le_of_ble_eq_true rfl) (Nat.le_of_ble_eq_true rfl) (Nat.le_of_ble_eq_true rfl) (Nat.le_of_ble_eq_true rfl) dX8_init_78 ?_
    refine k_istore hO dX8_init_81 (by decide) (lv' := [(6, .int 115), (5, .int 74), (4, .int 2), (3, .int 433), (2, .int 14), (0, .ref h0), (1, .ref p1)]) rfl ?_
    refine k_iload hO dX8_init_83 0 rfl ?_
    refine k_bipush hO dX8_init_85 ic_b_32 ?_
    refine k_icmp_eqF (pc := 87) hO dX8_init_87 (tgt := 109) (by decide) (by decide) ?_
    refine k_bipush hO dX8_init_90 ic_b_27 ?_
    refine k_iload_n hO dX8_init_92 3 rfl rfl ?_
    refine k_imul hO dX8_init_93 (v := 11691) (by decide) ?_
    refine k_iload hO dX8_init_94 0 rfl ?_
    refine k_iadd hO dX8_init_96 (v := 11806) (by decide) ?_
    refine k_bipush hO dX8_init_97 ic_b_97 ?_
    refine k_isub hO dX8_init_99 (v := 11709) (by decide) ?_
    refine k_iconst hO dX8_init_100 ic_i_1 ?_
    refine k_iadd hO dX8_init_101 (v := 11710) (by decide) ?_
    refine k_istore_n hO dX8_init_102 rfl (by decide) (lv' := [(3, .int 11710), (6, .int 115), (5, .int 74), (4, .int 2), (2, .int 14), (0, .ref h0), (1, .ref p1)]) rfl ?_
    refine k_iinc hO dX8_init_103 3 rfl (v := 3) (by decide) (by decide) (lv' := [(4, .int 3), (3, .int 11710), (6, .int 115), (5, .int 74), (2, .int 14), (0, .ref h0), (1, .ref p1)]) rfl ?_
    refine k_goto (pc := 106) hO dX8_init_106 (tgt := 135) (by decide) ?_
    refine k_iinc hO dX8_init_135 3 rfl (v := 75) (by decide) (by decide) (lv' := [(5, .int 75), (4, .int 3), (3, .int 11710), (6, .int 115), (2, .int 14), (0, .ref h0), (1, .ref p1)]) rfl ?_
    refine k_goto (pc := 138) hO dX8_init_138 (tgt := 64) (by decide) ?_
    refine k_iload hO dX8_init_64 0 rfl ?_
    refine k_ldcS hO rfl dX8_init_66 ?_
    refine k_strlen hO w295 (Nat.le_of_ble_eq_true rfl) (Nat.le_of_ble_eq_true rfl) (Nat.le_of_ble_eq_true rfl) (Nat.le_of_ble_eq_true rfl) (Nat.le_of_ble_eq_true rfl) dX8_init_68 ?_
    refine k_icmp_geF (pc := 71) hO dX8_init_71 (tgt := 141) (by decide) (by decide) ?_
    refine k_ldcS hO rfl dX8_init_74 ?_
    refine k_iload hO dX8_init_76 0 rfl ?_
    refine k_charAt hO (k := 75) (v := 115) (Nat.le_of_ble_eq_true rfl) rfl rfl w305 (Nat.le_of_ble_eq_true rfl) (Nat.le_of_ble_eq_true rfl) (Nat.le_of_ble_eq_true rfl) (Nat.le_of_ble_eq_true rfl) (Nat.le_of_ble_eq_true rfl) dX8_init_78 ?_
    refine k_istore hO dX8_init_81 (by decide) (lv' := [(6, .int 115), (5, .int 75), (4, .int 3), (3, .int 11710), (2, .int 14), (0, .ref h0), (1, .ref p1)]) rfl ?_
    refine k_iload hO dX8_init_83 0 rfl ?_
    refine k_bipush hO dX8_init_85 ic_b_32 ?_
    refine k_icmp_eqF (pc := 87) hO dX8_init_87 (tgt := 109) (by decide) (by decide) ?_
    refine k_bipush hO dX8_init_90 ic_b_27 ?_
    refine k_iload_n hO dX8_init_92 3 rfl rfl ?_
    refine k_imul hO dX8_init_93 (v := 316170) (by decide) ?_
    refine k_iload hO dX8_init_94 0 rfl ?_
    refine k_iadd hO dX8_init_96 (v := 316285) (by decide) ?_
    refine k_bipush hO dX8_init_97 ic_b_97 ?_
    refine k_isub hO dX8_init_99 (v := 316188) (by decide) ?_
    refine k_iconst hO dX8_init_100 ic_i_1 ?_
    refine k_iadd hO dX8_init_101 (v := 316189) (by decide) ?_
    refine k_istore_n hO dX8_init_102 rfl (by decide) (lv' := [(3, .int 316189), (6, .int 115), (5, .int 75), (4, .int 3), (2, .int 14), (0, .ref h0), (1, .ref p1)]) rfl ?_
    refine k_iinc hO dX8_init_103 3 rfl (v := 4) (by decide) (by decide) (lv' := [(4, .int 4), (3, .int 316189), (6, .int 115), (5, .int 75), (2, .int 14), (0, .ref h0), (1, .ref p1)]) rfl ?_
    refine k_goto (pc := 106) hO dX8_init_106 (tgt := 135) (by decide) ?_
    refine k_iinc hO dX8_init_135 3 rfl (v := 76) (by decide) (by decide) (lv' := [(5, .int 76), (4, .int 4), (3, .int 316189), (6, .int 115), (2, .int 14), (0, .ref h0), (1, .ref p1)]) rfl ?_
    refine k_goto (pc := 138) hO dX8_init_138 (tgt := 64) (by decide) ?_
    refine k_iload hO dX8_init_64 0 rfl ?_
    refine k_ldcS hO rfl dX8_init_66 ?_
    refine k_strlen hO w295 (Nat.le_of_ble_eq_true rfl) (Nat.le_of_ble_eq_true rfl) (Nat.le_of_ble_eq_true rfl) (Nat.le_of_ble_eq_true rfl) (Nat.le_of_ble_eq_true rfl) dX8_init_68 ?_
    refine k_icmp_geF (pc := 71) hO dX8_init_71 (tgt := 141) (by decide) (by decide) ?_
    refine k_ldcS hO rfl dX8_init_74 ?_
    refine k_iload hO dX8_init_76 0 rfl ?_
    refine k_charAt hO (k := 76) (v := 32) (Nat.le_of_ble_eq_true rfl) rfl rfl w305 (Nat.le_of_ble_eq_true rfl) (Nat.le_of_ble_eq_true rfl) (Nat.le_of_ble_eq_true rfl) (Nat.le_of_ble_eq_true rfl) (Nat.le_of_ble_eq_true rfl) dX8_init_78 ?_
    refine k_istore hO dX8_init_81 (by decide) (lv' := [(6, .int 32), (5, .int 76), (4, .int 4), (3, .int 316189), (2, .int 14), (0, .ref h0), (1, .ref p1)]) rfl ?_
    refine k_iload hO dX8_init_83 0 rfl ?_
    refine k_bipush hO dX8_init_85 ic_b_32 ?_
    refine k_icmp_eqT (pc := 87) hO dX8_init_87 (tgt := 109) (by decide) (by decide) ?_
    refine k_iload_n hO dX8_init_109 4 rfl rfl ?_
    refine k_bipush hO dX8_init_110 ic_b_25 ?_
    refine k_icmp_geF (pc := 112) hO dX8_init_112 (tgt := 135) (by decide) (by decide) ?_
    refine k_aload_n hO dX8_init_115 5 rfl rfl ?_
    refine k_get hO flX8_11 0 rfl (v := .ref q7) rfl dX8_init_116 ?_
    refine k_iload_n hO dX8_init_119 4 rfl rfl ?_
    refine k_iload_n hO dX8_init_120 3 rfl rfl ?_
    refine k_iload hO dX8_init_121 2 rfl ?_
    refine k_fill hO fu_316189_4 w343 (Nat.le_of_ble_eq_true rfl) (Nat.le_of_ble_eq_true rfl) (Nat.le_of_ble_eq_true rfl) (Nat.le_of_ble_eq_true rfl) (Nat.le_of_ble_eq_true rfl) dX8_init_123 ?_
    refine k_iast hO 1 rfl (by decide) (k := 14) (by decide) (ws' := [(h0, .inr (8, [.ref p1, .ref q7, .int 259, .int 0, .int 0, .int 0, .int 0, .int 0, .int (-1)])), (q7, .inl (cy 0, 25, .inl (upd (upd (upd (upd (upd (upd (upd (upd (upd (upd (upd (upd (upd (upd (upd (fun _ => 0) 0 291417210) 1 332864532) 2 173107395) 3 51382989) 4 266274540) 5 294949755) 6 283368645) 7 230359626) 8 115696674) 9 65554785) 10 24977727) 11 123189336) 12 273666600) 13 108693171) 14 230501781)))]) rfl dX8_init_126 ?_
    refine k_iinc hO dX8_init_127 4 rfl (v := 15) (by decide) (by decide) (lv' := [(2, .int 15), (6, .int 32), (5, .int 76), (4, .int 4), (3, .int 316189), (0, .ref h0), (1, .ref p1)]) rfl ?_
    refine k_iconst hO dX8_init_130 ic_i_0 ?_
    refine k_istore_n hO dX8_init_131 rfl (by decide) (lv' := [(3, .int 0), (2, .int 15), (6, .int 32), (5, .int 76), (4, .int 4), (0, .ref h0), (1, .ref p1)]) rfl ?_
    refine k_iconst hO dX8_init_132 ic_i_0 ?_
    refine k_istore hO dX8_init_133 (by decide) (lv' := [(4, .int 0), (3, .int 0), (2, .int 15), (6, .int 32), (5, .int 76), (0, .ref h0), (1, .ref p1)]) rfl ?_
    refine k_iinc hO dX8_init_135 4 rfl (v := 77) (by decide) (by decide) (lv' := [(5, .int 77), (4, .int 0), (3, .int 0), (2, .int 15), (6, .int 32), (0, .ref h0), (1, .ref p1)]) rfl ?_
    refine k_goto (pc := 138) hO dX8_init_138 (tgt := 64) (by decide) ?_
    refine k_iload hO dX8_init_64 0 rfl ?_
    refine k_ldcS hO rfl dX8_init_66 ?_
    refine k_strlen hO w295 (Nat.le_of_ble_eq_true rfl) (Nat.le_of_ble_eq_true rfl) (Nat.le_of_ble_eq_true rfl) (Nat.le_of_ble_eq_true rfl) (Nat.le_of_ble_eq_true rfl) dX8_init_68 ?_
    refine k_icmp_geF (pc := 71) hO dX8_init_71 (tgt := 141) (by decide) (by decide) ?_
    refine k_ldcS hO rfl dX8_init_74 ?_
    refine k_iload hO dX8_init_76 0 rfl ?_
    refine k_charAt hO (k := 77) (v := 104) (Nat.le_of_ble_eq_true rfl) rfl rfl w305 (Nat.le_of_ble_eq_true rfl) (Nat.le_of_ble_eq_true rfl) (Nat.le_of_ble_eq_true rfl) (Nat.le_of_ble_eq_true rfl) (Nat.le_of_ble_eq_true rfl) dX8_init_78 ?_
    refine k_istore hO dX8_init_81 (by decide) (lv' := [(6, .int 104), (5, .int 77), (4, .int 0), (3, .int 0), (2, .int 15), (0, .ref h0), (1, .ref p1)]) rfl ?_
    refine k_iload hO dX8_init_83 0 rfl ?_
    refine k_bipush hO dX8_init_85 ic_b_32 ?_
    refine k_icmp_eqF (pc := 87) hO dX8_init_87 (tgt := 109) (by decide) (by decide) ?_
    refine k_bipush hO dX8_init_90 ic_b_27 ?_
    refine k_iload_n hO dX8_init_92 3 rfl rfl ?_
    refine k_imul hO dX8_init_93 (v := 0) (by decide) ?_
    refine k_iload hO dX8_init_94 0 rfl ?_
    refine k_iadd hO dX8_init_96 (v := 104) (by decide) ?_
    refine k_bipush hO dX8_init_97 ic_b_97 ?_
    refine k_isub hO dX8_init_99 (v := 7) (by decide) ?_
    refine k_iconst hO dX8_init_100 ic_i_1 ?_
    refine k_iadd hO dX8_init_101 (v := 8) (by decide) ?_
    refine k_istore_n hO dX8_init_102 rfl (by decide) (lv' := [(3, .int 8), (6, .int 104), (5, .int 77), (4, .int 0), (2, .int 15), (0, .ref h0), (1, .ref p1)]) rfl ?_
    refine k_iinc hO dX8_init_103 3 rfl (v := 1) (by decide) (by decide) (lv' := [(4, .int 1), (3, .int 8), (6, .int 104), (5, .int 77), (2, .int 15), (0, .ref h0), (1, .ref p1)]) rfl ?_
    refine k_goto (pc := 106) hO dX8_init_106 (tgt := 135) (by decide) ?_
    refine k_iinc hO dX8_init_135 3 rfl (v := 78) (by decide) (by decide) (lv' := [(5, .int 78), (4, .int 1), (3, .int 8), (6, .int 104), (2, .int 15), (0, .ref h0), (1, .ref p1)]) rfl ?_
    refine k_goto (pc := 138) hO dX8_init_138 (tgt := 64) (by decide) ?_
    refine k_iload hO dX8_init_64 0 rfl ?_
    refine k_ldcS hO rfl dX8_init_66 ?_
    refine k_strlen hO w295 (Nat.le_of_ble_eq_true rfl) (Nat.le_of_ble_eq_true rfl) (Nat.le_of_ble_eq_true rfl) (Nat.le_of_ble_eq_true rfl) (Nat.le_of_ble_eq_true rfl) dX8_init_68 ?_
    refine k_icmp_geF (pc := 71) hO dX8_init_71 (tgt := 141) (by decide) (by decide) ?_
    refine k_ldcS hO rfl dX8_init_74 ?_
    refine k_iload hO dX8_init_76 0 rfl ?_
    refine k_charAt hO (k := 78) (v := 101) (Nat.le_of_ble_eq_true rfl) rfl rfl w305 (Nat.le_of_ble_eq_true rfl) (Nat.le_of_ble_eq_true rfl) (Nat.le_of_ble_eq_true rfl) (Nat.le_of_ble_eq_true rfl) (Nat.le_of_ble_eq_true rfl) dX8_init_78 ?_
    refine k_istore hO dX8_init_81 (by decide) (lv' := [(6, .int 101), (5, .int 78), (4, .int 1), (3, .int 8), (2, .int 15), (0, .ref h0), (1, .ref p1)]) rfl ?_
    refine k_iload hO dX8_init_83 0 rfl ?_
    refine k_bipush hO dX8_init_85 ic_b_32 ?_
    refine k_icmp_eqF (pc := 87) hO dX8_init_87 (tgt := 109) (by decide) (by decide) ?_
    refine k_bipush hO dX8_init_90 ic_b_27 ?_
    refine k_iload_n hO dX8_init_92 3 rfl rfl ?_
    refine k_imul hO dX8_init_93 (v := 216) (by decide) ?_
    refine k_iload hO dX8_init_94 0 rfl ?_
    refine k_iadd hO dX8_init_96 (v := 317) (by decide) ?_
    refine k_bipush hO dX8_init_97 ic_b_97 ?_
    refine k_isub hO dX8_init_99 (v := 220) (by decide) ?_
    refine k_iconst hO dX8_init_100 ic_i_1 ?_
    refine k_iadd hO dX8_init_101 (v := 221) (by decide) ?_
    refine k_istore_n hO dX8_init_102 rfl (by decide) (lv' := [(3, .int 221), (6, .int 101), (5, .int 78), (4, .int 1), (2, .int 15), (0, .ref h0), (1, .ref p1)]) rfl ?_
    refine k_iinc hO dX8_init_103 3 rfl (v := 2) (by decide) (by decide) (lv' := [(4, .int 2), (3, .int 221), (6, .int 101), (5, .int 78), (2, .int 15), (0, .ref h0), (1, .ref p1)]) rfl ?_
    refine k_goto (pc := 106) hO dX8_init_106 (tgt := 135) (by decide) ?_
    refine k_iinc hO dX8_init_135 3 rfl (v := 79) (by decide) (by decide) (lv' := [(5, .int 79), (4, .int 2), (3, .int 221), (6, .int 101), (2, .int 15), (0, .ref h0), (1, .ref p1)]) rfl ?_
    refine k_goto (pc := 138) hO dX8_init_138 (tgt := 64) (by decide) ?_
    refine k_iload hO dX8_init_64 0 rfl ?_
    refine k_ldcS hO rfl dX8_init_66 ?_
    refine k_strlen hO w295 (Nat.le_of_ble_eq_true rfl) (Nat.le_of_ble_eq_true rfl) (Nat.le_of_ble_eq_true rfl) (Nat.le_of_ble_eq_true rfl) (Nat.le_of_ble_eq_true rfl) dX8_init_68 ?_
    refine k_icmp_geF (pc := 71) hO dX8_init_71 (tgt := 141) (by decide) (by decide) ?_
    refine k_ldcS hO rfl dX8_init_74 ?_
    refine k_iload hO dX8_init_76 0 rfl ?_
    refine k_charAt hO (k := 79) (v := 108) (Nat.le_of_ble_eq_true rfl) rfl rfl w305 (Nat.le_of_ble_eq_true rfl) (Nat.le_of_ble_eq_true rfl) (Nat.le_of_ble_eq_true rfl) (Nat.le_of_ble_eq_true rfl) (Nat.le_of_ble_eq_true rfl) dX8_init_78 ?_
    refine k_istore hO dX8_init_81 (by decide) (lv' := [(6, .int 108), (5, .int 79), (4, .int 2), (3, .int 221), (2, .int 15), (0, .ref h0), (1, .ref p1)]) rfl ?_
    refine k_iload hO dX8_init_83 0 rfl ?_
    refine k_bipush hO dX8_init_85 ic_b_32 ?_
    refine k_icmp_eqF (pc := 87) hO dX8_init_87 (tgt := 109) (by decide) (by decide) ?_
    refine k_bipush hO dX8_init_90 ic_b_27 ?_
    refine k_iload_n hO dX8_init_92 3 rfl rfl ?_
    refine k_imul hO dX8_init_93 (v := 5967) (by decide) ?_
    refine k_iload hO dX8_init_94 0 rfl ?_
    refine k_iadd hO dX8_init_96 (v := 6075) (by decide) ?_
    refine k_bipush hO dX8_init_97 ic_b_97 ?_
    refine k_isub hO dX8_init_99 (v := 5978) (by decide) ?_
    refine k_iconst hO dX8_init_100 ic_i_1 ?_
    refine k_iadd hO dX8_init_101 (v := 5979) (by decide) ?_
    refine k_istore_n hO dX8_init_102 rfl (by decide) (lv' := [(3, .int 5979), (6, .int 108), (5, .int 79), (4, .int 2), (2, .int 15), (0, .ref h0), (1, .ref p1)]) rfl ?_
    refine k_iinc hO dX8_init_103 3 rfl (v := 3) (by decide) (by decide) (lv' := [(4, .int 3), (3, .int 5979), (6, .int 108), (5, .int 79), (2, .int 15), (0, .ref h0), (1, .ref p1)]) rfl ?_
    refine k_goto (pc := 106) hO dX8_init_106 (tgt := 135) (by decide) ?_
    refine k_iinc hO dX8_init_135 3 rfl (v := 80) (by decide) (by decide) (lv' := [(5, .int 80), (4, .int 3), (3, .int 5979), (6, .int 108), (2, .int 15), (0, .ref h0), (1, .ref p1)]) rfl ?_
    refine k_goto (pc := 138) hO dX8_init_138 (tgt := 64) (by decide) ?_
    refine k_iload hO dX8_init_64 0 rfl ?_
    refine k_ldcS hO rfl dX8_init_66 ?_
    refine k_strlen hO w295 (Nat.le_of_ble_eq_true rfl) (Nat.le_of_ble_eq_true rfl) (Nat.le_of_ble_eq_true rfl) (Nat.le_of_ble_eq_true rfl) (Nat.le_of_ble_eq_true rfl) dX8_init_68 ?_
    refine k_icmp_geF (pc := 71) hO dX8_init_71 (tgt := 141) (by decide) (by decide) ?_
    refine k_ldcS hO rfl dX8_init_74 ?_
    refine k_iload hO dX8_init_76 0 rfl ?_
    refine k_charAt hO (k := 80) (v := 100) (Nat.le_of_ble_eq_true rfl) rfl rfl w305 (Nat.le_of_ble_eq_true rfl) (Nat.le_of_ble_eq_true rfl) (Nat.le_of_ble_eq_true rfl) (Nat.le_of_ble_eq_true rfl) (Nat.le_of_ble_eq_true rfl) dX8_init_78 ?_
    refine k_istore hO dX8_init_81 (by decide) (lv' := [(6, .int 100), (5, .int 80), (4, .int 3), (3, .int 5979), (2, .int 15), (0, .ref h0), (1, .ref p1)]) rfl ?_
    refine k_iload hO dX8_init_83 0 rfl ?_
    refine k_bipush hO dX8_init_85 ic_b_32 ?_
    refine k_icmp_eqF (pc := 87) hO dX8_init_87 (tgt := 109) (by decide) (by decide) ?_
    refine k_bipush hO dX8_init_90 ic_b_27 ?_
    refine k_iload_n hO dX8_init_92 3 rfl rfl ?_
    refine k_imul hO dX8_init_93 (v := 161433) (by decide) ?_
    refine k_iload hO dX8_init_94 0 rfl ?_
    refine k_iadd hO dX8_init_96 (v := 161533) (by decide) ?_
    refine k_bipush hO dX8_init_97 ic_b_97 ?_
    refine k_isub hO dX8_init_99 (v := 161436) (by decide) ?_
    refine k_iconst hO dX8_init_100 ic_i_1 ?_
    refine k_iadd hO dX8_init_101 (v := 161437) (by decide) ?_
    refine k_istore_n hO dX8_init_102 rfl (by decide) (lv' := [(3, .int 161437), (6, .int 100), (5, .int 80), (4, .int 3), (2, .int 15), (0, .ref h0), (1, .ref p1)]) rfl ?_
    refine k_iinc hO dX8_init_103 3 rfl (v := 4) (by decide) (by decide) (lv' := [(4, .int 4), (3, .int 161437), (6, .int 100), (5, .int 80), (2, .int 15), (0, .ref h0), (1, .ref p1)]) rfl ?_
    refine k_goto (pc := 106) hO dX8_init_106 (tgt := 135) (by decide) ?_
    refine k_iinc hO dX8_init_135 3 rfl (v := 81) (by decide) (by decide) (lv' := [(5, .int 81), (4, .int 4), (3, .int 161437), (6, .int 100), (2, .int 15), (0, .ref h0), (1, .ref p1)]) rfl ?_
    refine k_goto (pc := 138) hO dX8_init_138 (tgt := 64) (by decide) ?_
    refine k_iload hO dX8_init_64 0 rfl ?_
    refine k_ldcS hO rfl dX8_init_66 ?_
    refine k_strlen hO w295 (Nat.le_of_ble_eq_true rfl) (Nat.le_of_ble_eq_true rfl) (Nat.le_of_ble_eq_true rfl) (Nat.le_of_ble_eq_true rfl) (Nat.le_of_ble_eq_true rfl) dX8_init_68 ?_
    refine k_icmp_geF (pc := 71) hO dX8_init_71 (tgt := 141) (by decide) (by decide) ?_
    refine k_ldcS hO rfl dX8_init_74 ?_
    refine k_iload hO dX8_init_76 0 rfl ?_
    refine k_charAt hO (k := 81) (v := 32) (Nat.le_of_ble_eq_true rfl) rfl rfl w305 (Nat.le_of_ble_eq_true rfl) (Nat.le_of_ble_eq_true rfl) (Nat.le_of_ble_eq_true rfl) (Nat.le_of_ble_eq_true rfl) (Nat.le_of_ble_eq_true rfl) dX8_init_78 ?_
    refine k_istore hO dX8_init_81 (by decide) (lv' := [(6, .int 32), (5, .int 81), (4, .int 4), (3, .int 161437), (2, .int 15), (0, .ref h0), (1, .ref p1)]) rfl ?_
    refine k_iload hO dX8_init_83 0 rfl ?_
    refine k_bipush hO dX8_init_85 ic_b_32 ?_
    refine k_icmp_eqT (pc := 87) hO dX8_init_87 (tgt := 109) (by decide) (by decide) ?_
    refine k_iload_n hO dX8_init_109 4 rfl rfl ?_
    refine k_bipush hO dX8_init_110 ic_b_25 ?_
    refine k_icmp_geF (pc := 112) hO dX8_init_112 (tgt := 135) (by decide) (by decide) ?_
    refine k_aload_n hO dX8_init_115 5 rfl rfl ?_
    refine k_get hO flX8_11 0 rfl (v := .ref q7) rfl dX8_init_116 ?_
    refine k_iload_n hO dX8_init_119 4 rfl rfl ?_
    refine k_iload_n hO dX8_init_120 3 rfl rfl ?_
    refine k_iload hO dX8_init_121 2 rfl ?_
    refine k_fill hO fu_161437_4 w343 (Nat.le_of_ble_eq_true rfl) (Nat.le_of_ble_eq_true rfl) (Nat.le_of_ble_eq_true rfl) (Nat.le_of_ble_eq_true rfl) (Nat.le_of_ble_eq_true rfl) dX8_init_123 ?_
    refine k_iast hO 1 rfl (by decide) (k := 15) (by decide) (ws' := [(h0, .inr (8, [.ref p1, .ref q7, .int 259, .int 0, .int 0, .int 0, .int 0, .int 0, .int (-1)])), (q7, .inl (cy 0, 25, .inl (upd (upd (upd (upd (upd (upd (upd (upd (upd (upd (upd (upd (upd (upd (upd (upd (fun _ => 0) 0 291417210) 1 332864532) 2 173107395) 3 51382989) 4 266274540) 5 294949755) 6 283368645) 7 230359626) 8 115696674) 9 65554785) 10 24977727) 11 123189336) 12 273666600) 13 108693171) 14 230501781) 15 117687573)))]) rfl dX8_init_126 ?_
    refine k_iinc hO dX8_init_127 4 rfl (v := 16) (by decide) (by decide) (lv' := [(2, .int 16), (6, .int 32), (5, .int 81), (4, .int 4), (3, .int 161437), (0, .ref h0), (1, .ref p1)]) rfl ?_
    refine k_iconst hO dX8_init_130 ic_i_0 ?_
    refine k_istore_n hO dX8_init_131 rfl (by decide) (lv' := [(3, .int 0), (2, .int 16), (6, .int 32), (5, .int 81), (4, .int 4), (0, .ref h0), (1, .ref p1)]) rfl ?_
    refine k_iconst hO dX8_init_132 ic_i_0 ?_
    refine k_istore hO dX8_init_133 (by decide) (lv' := [(4, .int 0), (3, .int 0), (2, .int 16), (6, .int 32), (5, .int 81), (0, .ref h0), (1, .ref p1)]) rfl ?_
    refine k_iinc hO dX8_init_135 4 rfl (v := 82) (by decide) (by decide) (lv' := [(5, .int 82), (4, .int 0), (3, .int 0), (2, .int 16), (6, .int 32), (0, .ref h0), (1, .ref p1)]) rfl ?_
    refine k_goto (pc := 138) hO dX8_init_138 (tgt := 64) (by decide) ?_
    refine k_iload hO dX8_init_64 0 rfl ?_
    refine k_ldcS hO rfl dX8_init_66 ?_
    refine k_strlen hO w295 (Nat.le_of_ble_eq_true rfl) (Nat.le_of_ble_eq_true rfl) (Nat.le_of_ble_eq_true rfl) (Nat.le_of_ble_eq_true rfl) (Nat.le_of_ble_eq_true rfl) dX8_init_68 ?_
    refine k_icmp_geF (pc := 71) hO dX8_init_71 (tgt := 141) (by decide) (by decide) ?_
    refine k_ldcS hO rfl dX8_init_74 ?_
    refine k_iload hO dX8_init_76 0 rfl ?_
    refine k_charAt hO (k := 82) (v := 109) (Nat.le_of_ble_eq_true rfl) rfl rfl w305 (Nat.le_of_ble_eq_true rfl) (Nat.le_of_ble_eq_true rfl) (Nat.le_of_ble_eq_true rfl) (Nat.le_of_ble_eq_true rfl) (Nat.le_of_ble_eq_true rfl) dX8_init_78 ?_
    refine k_istore hO dX8_init_81 (by decide) (lv' := [(6, .int 109), (5, .int 82), (4, .int 0), (3, .int 0), (2, .int 16), (0, .ref h0), (1, .ref p1)]) rfl ?_
    refine k_iload hO dX8_init_83 0 rfl ?_
    refine k_bipush hO dX8_init_85 ic_b_32 ?_
    refine k_icmp_eqF (pc := 87) hO dX8_init_87 (tgt := 109) (by decide) (by decide) ?_
    refine k_bipush hO dX8_init_90 ic_b_27 ?_
    refine k_iload_n hO dX8_init_92 3 rfl rfl ?_
    refine k_imul hO dX8_init_93 (v := 0) (by decide) ?_
    refine k_iload hO dX8_init_94 0 rfl ?_
    refine k_iadd hO dX8_init_96 (v := 109) (by decide) ?_
    refine k_bipush hO dX8_init_97 ic_b_97 ?_
    refine k_isub hO dX8_init_99 (v := 12) (by decide) ?_
    refine k_iconst hO dX8_init_100 ic_i_1 ?_
    refine k_iadd hO dX8_init_101 (v := 13) (by decide) ?_
    refine k_istore_n hO dX8_init_102 rfl (by decide) (lv' := [(3, .int 13), (6, .int 109), (5, .int 82), (4, .int 0), (2, .int 16), (0, .ref h0), (1, .ref p1)]) rfl ?_
    refine k_iinc hO dX8_init_103 3 rfl (v := 1) (by decide) (by decide) (lv' := [(4, .int 1), (3, .int 13), (6, .int 109), (5, .int 82), (2, .int 16), (0, .ref h0), (1, .ref p1)]) rfl ?_
    refine k_goto (pc := 106) hO dX8_init_106 (tgt := 135) (by decide) ?_
    refine k_iinc hO dX8_init_135 3 rfl (v := 83) (by decide) (by decide) (lv' := [(5, .int 83), (4, .int 1), (3, .int 13), (6, .int 109), (2, .int 16), (0, .ref h0), (1, .ref p1)]) rfl ?_
    refine k_goto (pc := 138) hO dX8_init_138 (tgt := 64) (by decide) ?_
    refine k_iload hO dX8_init_64 0 rfl ?_
    refine k_ldcS hO rfl dX8_init_66 ?_
    refine k_strlen hO w295 (Nat.le_of_ble_eq_true rfl) (Nat.le_of_ble_eq_true rfl) (Nat.le_of_ble_eq_true rfl) (Nat.le_of_ble_eq_true rfl) (Nat.le_of_ble_eq_true rfl) dX8_init_68 ?_
    refine k_icmp_geF (pc := 71) hO dX8_init_71 (tgt := 141) (by decide) (by decide) ?_
    refine k_ldcS hO rfl dX8_init_74 ?_
    refine k_iload hO dX8_init_76 0 rfl ?_
    refine k_charAt hO (k := 83) (v := 105) (Nat.le_of_ble_eq_true rfl) rfl rfl w305 (Nat.le_of_ble_eq_true rfl) (Nat.le_of_ble_eq_true rfl) (Nat.le_of_ble_eq_true rfl) (Nat.le_of_ble_eq_true rfl) (Nat.le_of_ble_eq_true rfl) dX8_init_78 ?_
    refine k_istore hO dX8_init_81 (by decide) (lv' := [(6, .int 105), (5, .int 83), (4, .int 1), (3, .int 13), (2, .int 16), (0, .ref h0), (1, .ref p1)]) rfl ?_
    refine k_iload hO dX8_init_83 0 rfl ?_
    refine k_bipush hO dX8_init_85 ic_b_32 ?_
    refine k_icmp_eqF (pc := 87) hO dX8_init_87 (tgt := 109) (by decide) (by decide) ?_
    refine k_bipush hO dX8_init_90 ic_b_27 ?_
    refine k_iload_n hO dX8_init_92 3 rfl rfl ?_
    refine k_imul hO dX8_init_93 (v := 351) (by decide) ?_
    refine k_iload hO dX8_init_94 0 rfl ?_
    refine k_iadd hO dX8_init_96 (v := 456) (by decide) ?_
    refine k_bipush hO dX8_init_97 ic_b_97 ?_
    refine k_isub hO dX8_init_99 (v := 359) (by decide) ?_
    refine k_iconst hO dX8_init_100 ic_i_1 ?_
    refine k_iadd hO dX8_init_101 (v := 360) (by decide) ?_
    refine k_istore_n hO dX8_init_102 rfl (by decide) (lv' := [(3, .int 360), (6, .int 105), (5, .int 83), (4, .int 1), (2, .int 16), (0, .ref h0), (1, .ref p1)]) rfl ?_
    refine k_iinc hO dX8_init_103 3 rfl (v := 2) (by decide) (by decide) (lv' := [(4, .int 2), (3, .int 360), (6, .int 105), (5, .int 83), (2, .int 16), (0, .ref h0), (1, .ref p1)]) rfl ?_
    refine k_goto (pc := 106) hO dX8_init_106 (tgt := 135) (by decide) ?_
    refine k_iinc hO dX8_init_135 3 rfl (v := 84) (by decide) (by decide) (lv' := [(5, .int 84), (4, .int 2), (3, .int 360), (6, .int 105), (2, .int 16), (0, .ref h0), (1, .ref p1)]) rfl ?_
    refine k_goto (pc := 138) hO dX8_init_138 (tgt := 64) (by decide) ?_
    refine k_iload hO dX8_init_64 0 rfl ?_
    refine k_ldcS hO rfl dX8_init_66 ?_
    refine k_strlen hO w295 (Nat.le_of_ble_eq_true rfl) (Nat.le_of_ble_eq_true rfl) (Nat.le_of_ble_eq_true rfl) (Nat.le_of_ble_eq_true rfl) (Nat.le_of_ble_eq_true rfl) dX8_init_68 ?_
    refine k_icmp_geF (pc := 71) hO dX8_init_71 (tgt := 141) (by decide) (by decide) ?_
    refine k_ldcS hO rfl dX8_init_74 ?_
    refine k_iload hO dX8_init_76 0 rfl ?_
    refine k_charAt hO (k := 84) (v := 110) (Nat.le_of_ble_eq_true rfl) rfl rfl w305 (Nat.le_of_ble_eq_true rfl) (Nat.le_of_ble_eq_true rfl) (Nat.le_of_ble_eq_true rfl) (Nat.le_of_ble_eq_true rfl) (Nat.le_of_ble_eq_true rfl) dX8_init_78 ?_
    refine k_istore hO dX8_init_81 (by decide) (lv' := [(6, .int 110), (5, .int 84), (4, .int 2), (3, .int 360), (2, .int 16), (0, .ref h0), (1, .ref p1)]) rfl ?_
    refine k_iload hO dX8_init_83 0 rfl ?_
    refine k_bipush hO dX8_init_85 ic_b_32 ?_
    refine k_icmp_eqF (pc := 87) hO dX8_init_87 (tgt := 109) (by decide) (by decide) ?_
    refine k_bipush hO dX8_init_90 ic_b_27 ?_
    refine k_iload_n hO dX8_init_92 3 rfl rfl ?_
    refine k_imul hO dX8_init_93 (v := 9720) (by decide) ?_
    refine k_iload hO dX8_init_94 0 rfl ?_
    refine k_iadd hO dX8_init_96 (v := 9830) (by decide) ?_
    refine k_bipush hO dX8_init_97 ic_b_97 ?_
    refine k_isub hO dX8_init_99 (v := 9733) (by decide) ?_
    refine k_iconst hO dX8_init_100 ic_i_1 ?_
    refine k_iadd hO dX8_init_101 (v := 9734) (by decide) ?_
    refine k_istore_n hO dX8_init_102 rfl (by decide) (lv' := [(3, .int 9734), (6, .int 110), (5, .int 84), (4, .int 2), (2, .int 16), (0, .ref h0), (1, .ref p1)]) rfl ?_
    refine k_iinc hO dX8_init_103 3 rfl (v := 3) (by decide) (by decide) (lv' := [(4, .int 3), (3, .int 9734), (6, .int 110), (5, .int 84), (2, .int 16), (0, .ref h0), (1, .ref p1)]) rfl ?_
    refine k_goto (pc := 106) hO dX8_init_106 (tgt := 135) (by decide) ?_
    refine k_iinc hO dX8_init_135 3 rfl (v := 85) (by decide) (by decide) (lv' := [(5, .int 85), (4, .int 3), (3, .int 9734), (6, .int 110), (2, .int 16), (0, .ref h0), (1, .ref p1)]) rfl ?_
    refine k_goto (pc := 138) hO dX8_init_138 (tgt := 64) (by decide) ?_
    refine k_iload hO dX8_init_64 0 rfl ?_
    refine k_ldcS hO rfl dX8_init_66 ?_
    refine k_strlen hO w295 (Nat.le_of_ble_eq_true rfl) (Nat.le_of_ble_eq_true rfl) (Nat.le_of_ble_eq_true rfl) (Nat.le_of_ble_eq_true rfl) (Nat.le_of_ble_eq_true rfl) dX8_init_68 ?_
    refine k_icmp_geF (pc := 71) hO dX8_init_71 (tgt := 141) (by decide) (by decide) ?_
    refine k_ldcS hO rfl dX8_init_74 ?_
    refine k_iload hO dX8_init_76 0 rfl ?_
    refine k_charAt hO (k := 85) (v := 117) (Nat.le_of_ble_eq_true rfl) rfl rfl w305 (Nat.le_of_ble_eq_true rfl) (Nat.le_of_ble_eq_true rfl) (Nat.le_of_ble_eq_true rfl) (Nat.le_of_ble_eq_true rfl) (Nat.le_of_ble_eq_true rfl) dX8_init_78 ?_
    refine k_istore hO dX8_init_81 (by decide) (lv' := [(6, .int 117), (5, .int 85), (4, .int 3), (3, .int 9734), (2, .int 16), (0, .ref h0), (1, .ref p1)]) rfl ?_
    refine k_iload hO dX8_init_83 0 rfl ?_
    refine k_bipush hO dX8_init_85 ic_b_32 ?_
    refine k_icmp_eqF (pc := 87) hO dX8_init_87 (tgt := 109) (by decide) (by decide) ?_
    refine k_bipush hO dX8_init_90 ic_b_27 ?_
    refine k_iload_n hO dX8_init_92 3 rfl rfl ?_
    refine k_imul hO dX8_init_93 (v := 262818) (by decide) ?_
    refine k_iload hO dX8_init_94 0 rfl ?_
    refine k_iadd hO dX8_init_96 (v := 262935) (by decide) ?_
    refine k_bipush hO dX8_init_97 ic_b_97 ?_
    refine k_isub hO dX8_init_99 (v := 262838) (by decide) ?_
    refine k_iconst hO dX8_init_100 ic_i_1 ?_
    refine k_iadd hO dX8_init_101 (v := 262839) (by decide) ?_
    refine k_istore_n hO dX8_init_102 rfl (by decide) (lv' := [(3, .int 262839), (6, .int 117), (5, .int 85), (4, .int 3), (2, .int 16), (0, .ref h0), (1, .ref p1)]) rfl ?_
    refine k_iinc hO dX8_init_103 3 rfl (v := 4) (by decide) (by decide) (lv' := [(4, .int 4), (3, .int 262839), (6, .int 117), (5, .int 85), (2, .int 16), (0, .ref h0), (1, .ref p1)]) rfl ?_
    refine k_goto (pc := 106) hO dX8_init_106 (tgt := 135) (by decide) ?_
    refine k_iinc hO dX8_init_135 3 rfl (v := 86) (by decide) (by decide) (lv' := [(5, .int 86), (4, .int 4), (3, .int 262839), (6, .int 117), (2, .int 16), (0, .ref h0), (1, .ref p1)]) rfl ?_
    refine k_goto (pc := 138) hO dX8_init_138 (tgt := 64) (by decide) ?_
    refine k_iload hO dX8_init_64 0 rfl ?_
    refine k_ldcS hO rfl dX8_init_66 ?_
    refine k_strlen hO w295 (Nat.le_of_ble_eq_true rfl) (Nat.le_of_ble_eq_true rfl) (Nat.le_of_ble_eq_true rfl) (Nat.le_of_ble_eq_true rfl) (Nat.le_of_ble_eq_true rfl) dX8_init_68 ?_
    refine k_icmp_geF (pc := 71) hO dX8_init_71 (tgt := 141) (by decide) (by decide) ?_
    refine k_ldcS hO rfl dX8_init_74 ?_
    refine k_iload hO dX8_init_76 0 rfl ?_
    refine k_charAt hO (k := 86) (v := 116) (Nat.le_of_ble_eq_true rfl) rfl rfl w305 (Nat.le_of_ble_eq_true rfl) (Nat.le_of_ble_eq_true rfl) (Nat.le_of_ble_eq_true rfl) (Nat.le_of_ble_eq_true rfl) (Nat.le_of_ble_eq_true rfl) dX8_init_78 ?_
    refine k_istore hO dX8_init_81 (by decide) (lv' := [(6, .int 116), (5, .int 86), (4, .int 4), (3, .int 262839), (2, .int 16), (0, .ref h0), (1, .ref p1)]) rfl ?_
    refine k_iload hO dX8_init_83 0 rfl ?_
    refine k_bipush hO dX8_init_85 ic_b_32 ?_
    refine k_icmp_eqF (pc := 87) hO dX8_init_87 (tgt := 109) (by decide) (by decide) ?_
    refine k_bipush hO dX8_init_90 ic_b_27 ?_
    refine k_iload_n hO dX8_init_92 3 rfl rfl ?_
    refine k_imul hO dX8_init_93 (v := 7096653) (by decide) ?_
    refine k_iload hO dX8_init_94 0 rfl ?_
    refine k_iadd hO dX8_init_96 (v := 7096769) (by decide) ?_
    refine k_bipush hO dX8_init_97 ic_b_97 ?_
    refine k_isub hO dX8_init_99 (v := 7096672) (by decide) ?_
    refine k_iconst hO dX8_init_100 ic_i_1 ?_
    refine k_iadd hO dX8_init_101 (v := 7096673) (by decide) ?_
    refine k_istore_n hO dX8_init_102 rfl (by decide) (lv' := [(3, .int 7096673), (6, .int 116), (5, .int 86), (4, .int 4), (2, .int 16), (0, .ref h0), (1, .ref p1)]) rfl ?_
    refine k_iinc hO dX8_init_103 3 rfl (v := 5) (by decide) (by decide) (lv' := [(4, .int 5), (3, .int 7096673), (6, .int 116), (5, .int 86), (2, .int 16), (0, .ref h0), (1, .ref p1)]) rfl ?_
    refine k_goto (pc := 106) hO dX8_init_106 (tgt := 135) (by decide) ?_
    refine k_iinc hO dX8_init_135 3 rfl (v := 87) (by decide) (by decide) (lv' := [(5, .int 87), (4, .int 5), (3, .int 7096673), (6, .int 116), (2, .int 16), (0, .ref h0), (1, .ref p1)]) rfl ?_
    refine k_goto (pc := 138) hO dX8_init_138 (tgt := 64) (by decide) ?_
    refine k_iload hO dX8_init_64 0 rfl ?_
    refine k_ldcS hO rfl dX8_init_66 ?_
    refine k_strlen hO w295 (Nat.le_of_ble_eq_true rfl) (Nat.le_of_ble_eq_true rfl) (Nat.le_of_ble_eq_true rfl) (Nat.le_of_ble_eq_true rfl) (Nat.le_of_ble_eq_true rfl) dX8_init_68 ?_
    refine k_icmp_geF (pc := 71) hO dX8_init_71 (tgt := 141) (by decide) (by decide) ?_
    refine k_ldcS hO rfl dX8_init_74 ?_
    refine k_iload hO dX8_init_76 0 rfl ?_
    refine k_charAt hO (k := 87) (v := 101) (Nat.le_of_ble_eq_true rfl) rfl rfl w305 (Nat.le_of_ble_eq_true rfl) (Nat.le_of_ble_eq_true rfl) (Nat.le_of_ble_eq_true rfl) (Nat.le_of_ble_eq_true rfl) (Nat.le_of_ble_eq_true rfl) dX8_init_78 ?_
    refine k_istore hO dX8_init_81 (by decide) (lv' := [(6, .int 101), (5, .int 87), (4, .int 5), (3, .int 7096673), (2, .int 16), (0, .ref h0), (1, .ref p1)]) rfl ?_
    refine k_iload hO dX8_init_83 0 rfl ?_
    refine k_bipush hO dX8_init_85 ic_b_32 ?_
    refine k_icmp_eqF (pc := 87) hO dX8_init_87 (tgt := 109) (by decide) (by decide) ?_
    refine k_bipush hO dX8_init_90 ic_b_27 ?_
    refine k_iload_n hO dX8_init_92 3 rfl rfl ?_
    refine k_imul hO dX8_init_93 (v := 191610171) (by decide) ?_
    refine k_iload hO dX8_init_94 0 rfl ?_
    refine k_iadd hO dX8_init_96 (v := 191610272) (by decide) ?_
    refine k_bipush hO dX8_init_97 ic_b_97 ?_
    refine k_isub hO dX8_init_99 (v := 191610175) (by decide) ?_
    refine k_iconst hO dX8_init_100 ic_i_1 ?_
    refine k_iadd hO dX8_init_101 (v := 191610176) (by decide) ?_
    refine k_istore_n hO dX8_init_102 rfl (by decide) (lv' := [(3, .int 191610176), (6, .int 101), (5, .int 87), (4, .int 5), (2, .int 16), (0, .ref h0), (1, .ref p1)]) rfl ?_
    refine k_iinc hO dX8_init_103 3 rfl (v := 6) (by decide) (by decide) (lv' := [(4, .int 6), (3, .int 191610176), (6, .int 101), (5, .int 87), (2, .int 16), (0, .ref h0), (1, .ref p1)]) rfl ?_
    refine k_goto (pc := 106) hO dX8_init_106 (tgt := 135) (by decide) ?_
    refine k_iinc hO dX8_init_135 3 rfl (v := 88) (by decide) (by decide) (lv' := [(5, .int 88), (4, .int 6), (3, .int 191610176), (6, .int 101), (2, .int 16), (0, .ref h0), (1, .ref p1)]) rfl ?_
    refine k_goto (pc := 138) hO dX8_init_138 (tgt := 64) (by decide) ?_
    refine k_iload hO dX8_init_64 0 rfl ?_
    refine k_ldcS hO rfl dX8_init_66 ?_
    refine k_strlen hO w295 (Nat.le_of_ble_eq_true rfl) (Nat.le_of_ble_eq_true rfl) (Nat.le_of_ble_eq_true rfl) (Nat.le_of_ble_eq_true rfl) (Nat.le_of_ble_eq_true rfl) dX8_init_68 ?_
    refine k_icmp_geF (pc := 71) hO dX8_init_71 (tgt := 141) (by decide) (by decide) ?_
    refine k_ldcS hO rfl dX8_init_74 ?_
    refine k_iload hO dX8_init_76 0 rfl ?_
    refine k_charAt hO (k := 88) (v := 32) (Nat.le_of_ble_eq_true rfl) rfl rfl w305 (Nat.le_of_ble_eq_true rfl) (Nat.le_of_ble_eq_true rfl) (Nat.le_of_ble_eq_true rfl) (Nat.le_of_ble_eq_true rfl) (Nat.le_of_ble_eq_true rfl) dX8_init_78 ?_
    refine k_istore hO dX8_init_81 (by decide) (lv' := [(6, .int 32), (5, .int 88), (4, .int 6), (3, .int 191610176), (2, .int 16), (0, .ref h0), (1, .ref p1)]) rfl ?_
    refine k_iload hO dX8_init_83 0 rfl ?_
    refine k_bipush hO dX8_init_85 ic_b_32 ?_
    refine k_icmp_eqT (pc := 87) hO dX8_init_87 (tgt := 109) (by decide) (by decide) ?_
    refine k_iload_n hO dX8_init_109 4 rfl rfl ?_
    refine k_bipush hO dX8_init_110 ic_b_25 ?_
    refine k_icmp_geF (pc := 112) hO dX8_init_112 (tgt := 135) (by decide) (by decide) ?_
    refine k_aload_n hO dX8_init_115 5 rfl rfl ?_
    refine k_get hO flX8_11 0 rfl (v := .ref q7) rfl dX8_init_116 ?_
    refine k_iload_n hO dX8_init_119 4 rfl rfl ?_
    refine k_iload_n hO dX8_init_120 3 rfl rfl ?_
    refine k_iload hO dX8_init_121 2 rfl ?_
    refine k_fill hO fu_191610176_6 w343 (Nat.le_of_ble_eq_true rfl) (Nat.le_of_ble_eq_true rfl) (Nat.le_of_ble_eq_true rfl) (Nat.le_of_ble_eq_true rfl) (Nat.le_of_ble_eq_true rfl) dX8_init_123 ?_
    refine k_iast hO 1 rfl (by decide) (k := 16) (by decide) (ws' := [(h0, .inr (8, [.ref p1, .ref q7, .int 259, .int 0, .int 0, .int 0, .int 0, .int 0, .int (-1)])), (q7, .inl (cy 0, 25, .inl (upd (upd (upd (upd (upd (upd (upd (upd (upd (upd (upd (upd (upd (upd (upd (upd (upd (fun _ => 0) 0 291417210) 1 332864532) 2 173107395) 3 51382989) 4 266274540) 5 294949755) 6 283368645) 7 230359626) 8 115696674) 9 65554785) 10 24977727) 11 123189336) 12 273666600) 13 108693171) 14 230501781) 15 117687573) 16 191610176)))]) rfl dX8_init_126 ?_
    refine k_iinc hO dX8_init_127 4 rfl (v := 17) (by decide) (by decide) (lv' := [(2, .int 17), (6, .int 32), (5, .int 88), (4, .int 6), (3, .int 191610176), (0, .ref h0), (1, .ref p1)]) rfl ?_
    refine k_iconst hO dX8_init_130 ic_i_0 ?_
    refine k_istore_n hO dX8_init_131 rfl (by decide) (lv' := [(3, .int 0), (2, .int 17), (6, .int 32), (5, .int 88), (4, .int 6), (0, .ref h0), (1, .ref p1)]) rfl ?_
    refine k_iconst hO dX8_init_132 ic_i_0 ?_
    refine k_istore hO dX8_init_133 (by decide) (lv' := [(4, .int 0), (3, .int 0), (2, .int 17), (6, .int 32), (5, .int 88), (0, .ref h0), (1, .ref p1)]) rfl ?_
    refine k_iinc hO dX8_init_135 4 rfl (v := 89) (by decide) (by decide) (lv' := [(5, .int 89), (4, .int 0), (3, .int 0), (2, .int 17), (6, .int 32), (0, .ref h0), (1, .ref p1)]) rfl ?_
    refine k_goto (pc := 138) hO dX8_init_138 (tgt := 64) (by decide) ?_
    refine k_iload hO dX8_init_64 0 rfl ?_
    refine k_ldcS hO rfl dX8_init_66 ?_
    refine k_strlen hO w295 (Nat.le_of_ble_eq_true rfl) (Nat.le_of_ble_eq_true rfl) (Nat.le_of_ble_eq_true rfl) (Nat.le_of_ble_eq_true rfl) (Nat.le_of_ble_eq_true rfl) dX8_init_68 ?_
    refine k_icmp_geF (pc := 71) hO dX8_init_71 (tgt := 141) (by decide) (by decide) ?_
    refine k_ldcS hO rfl dX8_init_74 ?_
    refine k_iload hO dX8_init_76 0 rfl ?_
    refine k_charAt hO (k := 89) (v := 101) (Nat.le_of_ble_eq_true rfl) rfl rfl w305 (Nat.le_of_ble_eq_true rfl) (Nat.le_of_ble_eq_true rfl) (Nat.le_of_ble_eq_true rfl) (Nat.le_of_ble_eq_true rfl) (Nat.le_of_ble_eq_true rfl) dX8_init_78 ?_
    refine k_istore hO dX8_init_81 (by decide) (lv' := [(6, .int 101), (5, .int 89), (4, .int 0), (3, .int 0), (2, .int 17), (0, .ref h0), (1, .ref p1)]) rfl ?_
    refine k_iload hO dX8_init_83 0 rfl ?_
    refine k_bipush hO dX8_init_85 ic_b_32 ?_
    refine k_icmp_eqF (pc := 87) hO dX8_init_87 (tgt := 109) (by decide) (by decide) ?_
    refine k_bipush hO dX8_init_90 ic_b_27 ?_
    refine k_iload_n hO dX8_init_92 3 rfl rfl ?_
    refine k_imul hO dX8_init_93 (v := 0) (by decide) ?_
    refine k_iload hO dX8_init_94 0 rfl ?_
    refine k_iadd hO dX8_init_96 (v := 101) (by decide) ?_
    refine k_bipush hO dX8_init_97 ic_b_97 ?_
    refine k_isub hO dX8_init_99 (v := 4) (by decide) ?_
    refine k_iconst hO dX8_init_100 ic_i_1 ?_
    refine k_iadd hO dX8_init_101 (v := 5) (by decide) ?_
    refine k_istore_n hO dX8_init_102 rfl (by decide) (lv' := [(3, .int 5), (6, .int 101), (5, .int 89), (4, .int 0), (2, .int 17), (0, .ref h0), (1, .ref p1)]) rfl ?_
    refine k_iinc hO dX8_init_103 3 rfl (v := 1) (by decide) (by decide) (lv' := [(4, .int 1), (3, .int 5), (6, .int 101), (5, .int 89), (2, .int 17), (0, .ref h0), (1, .ref p1)]) rfl ?_
    refine k_goto (pc := 106) hO dX8_init_106 (tgt := 135) (by decide) ?_
    refine k_iinc hO dX8_init_135 3 rfl (v := 90) (by decide) (by decide) (lv' := [(5, .int 90), (4, .int 1), (3, .int 5), (6, .int 101), (2, .int 17), (0, .ref h0), (1, .ref p1)]) rfl ?_
    refine k_goto (pc := 138) hO dX8_init_138 (tgt := 64) (by decide) ?_
    refine k_iload hO dX8_init_64 0 rfl ?_
    refine k_ldcS hO rfl dX8_init_66 ?_
    refine k_strlen hO w295 (Nat.le_of_ble_eq_true rfl) (Nat.le_of_ble_eq_true rfl) (Nat.le_of_ble_eq_true rfl) (Nat.le_of_ble_eq_true rfl) (Nat.le_of_ble_eq_true rfl) dX8_init_68 ?_
    refine k_icmp_geF (pc := 71) hO dX8_init_71 (tgt := 141) (by decide) (by decide) ?_
    refine k_ldcS hO rfl dX8_init_74 ?_
    refine k_iload hO dX8_init_76 0 rfl ?_
    refine k_charAt hO (k := 90) (v := 109) (Nat.le_of_ble_eq_true rfl) rfl rfl w305 (Nat.le_of_ble_eq_true rfl) (Nat.le_of_ble_eq_true rfl) (Nat.le_of_ble_eq_true rfl) (Nat.le_of_ble_eq_true rfl) (Nat.le_of_ble_eq_true rfl) dX8_init_78 ?_
    refine k_istore hO dX8_init_81 (by decide) (lv' := [(6, .int 109), (5, .int 90), (4, .int 1), (3, .int 5), (2, .int 17), (0, .ref h0), (1, .ref p1)]) rfl ?_
    refine k_iload hO dX8_init_83 0 rfl ?_
    refine k_bipush hO dX8_init_85 ic_b_32 ?_
    refine k_icmp_eqF (pc := 87) hO dX8_init_87 (tgt := 109) (by decide) (by decide) ?_
    refine k_bipush hO dX8_init_90 ic_b_27 ?_
    refine k_iload_n hO dX8_init_92 3 rfl rfl ?_
    refine k_imul hO dX8_init_93 (v := 135) (by decide) ?_
    refine k_iload hO dX8_init_94 0 rfl ?_
    refine k_iadd hO dX8_init_96 (v := 244) (by decide) ?_
    refine k_bipush hO dX8_init_97 ic_b_97 ?_
    refine k_isub hO dX8_init_99 (v := 147) (by decide) ?_
    refine k_iconst hO dX8_init_100 ic_i_1 ?_
    refine k_iadd hO dX8_init_101 (v := 148) (by decide) ?_
    refine k_istore_n hO dX8_init_102 rfl (by decide) (lv' := [(3, .int 148), (6, .int 109), (5, .int 90), (4, .int 1), (2, .int 17), (0, .ref h0), (1, .ref p1)]) rfl ?_
    refine k_iinc hO dX8_init_103 3 rfl (v := 2) (by decide) (by decide) (lv' := [(4, .int 2), (3, .int 148), (6, .int 109), (5, .int 90), (2, .int 17), (0, .ref h0), (1, .ref p1)]) rfl ?_
    refine k_goto (pc := 106) hO dX8_init_106 (tgt := 135) (by decide) ?_
    refine k_iinc hO dX8_init_135 3 rfl (v := 91) (by decide) (by decide) (lv' := [(5, .int 91), (4, .int 2), (3, .int 148), (6, .int 109), (2, .int 17), (0, .ref h0), (1, .ref p1)]) rfl ?_
    refine k_goto (pc := 138) hO dX8_init_138 (tgt := 64) (by decide) ?_
    refine k_iload hO dX8_init_64 0 rfl ?_
    refine k_ldcS hO rfl dX8_init_66 ?_
    refine k_strlen hO w295 (Nat.le_of_ble_eq_true rfl) (Nat.le_of_ble_eq_true rfl) (Nat.le_of_ble_eq_true rfl) (Nat.le_of_ble_eq_true rfl) (Nat.le_of_ble_eq_true rfl) dX8_init_68 ?_
    refine k_icmp_geF (pc := 71) hO dX8_init_71 (tgt := 141) (by decide) (by decide) ?_
    refine k_ldcS hO rfl dX8_init_74 ?_
    refine k_iload hO dX8_init_76 0 rfl ?_
    refine k_charAt hO (k := 91) (v := 112) (Nat.le_of_ble_eq_true rfl) rfl rfl w305 (Nat.le_of_ble_eq_true rfl) (Nat.le_of_ble_eq_true rfl) (Nat.le_of_ble_eq_true rfl) (Nat.le_of_ble_eq_true rfl) (Nat.le_of_ble_eq_true rfl) dX8_init_78 ?_
    refine k_istore hO dX8_init_81 (by decide) (lv' := [(6, .int 112), (5, .int 91), (4, .int 2), (3, .int 148), (2, .int 17), (0, .ref h0), (1, .ref p1)]) rfl ?_
    refine k_iload hO dX8_init_83 0 rfl ?_
    refine k_bipush hO dX8_init_85 ic_b_32 ?_
    refine k_icmp_eqF (pc := 87) hO dX8_init_87 (tgt := 109) (by decide) (by decide) ?_
    refine k_bipush hO dX8_init_90 ic_b_27 ?_
    refine k_iload_n hO dX8_init_92 3 rfl rfl ?_
    refine k_imul hO dX8_init_93 (v := 3996) (by decide) ?_
    refine k_iload hO dX8_init_94 0 rfl ?_
    refine k_iadd hO dX8_init_96 (v := 4108) (by decide) ?_
    refine k_bipush hO dX8_init_97 ic_b_97 ?_
    refine k_isub hO dX8_init_99 (v := 4011) (by decide) ?_
    refine k_iconst hO dX8_init_100 ic_i_1 ?_
    refine k_iadd hO dX8_init_101 (v := 4012) (by decide) ?_
    refine k_istore_n hO dX8_init_102 rfl (by decide) (lv' := [(3, .int 4012), (6, .int 112), (5, .int 91), (4, .int 2), (2, .int 17), (0, .ref h0), (1, .ref p1)]) rfl ?_
    refine k_iinc hO dX8_init_103 3 rfl (v := 3) (by decide) (by decide) (lv' := [(4, .int 3), (3, .int 4012), (6, .int 112), (5, .int 91), (2, .int 17), (0, .ref h0), (1, .ref p1)]) rfl ?_
    refine k_goto (pc := 106) hO dX8_init_106 (tgt := 135) (by decide) ?_
    refine k_iinc hO dX8_init_135 3 rfl (v := 92) (by decide) (by decide) (lv' := [(5, .int 92), (4, .int 3), (3, .int 4012), (6, .int 112), (2, .int 17), (0, .ref h0), (1, .ref p1)]) rfl ?_
    refine k_goto (pc := 138) hO dX8_init_138 (tgt := 64) (by decide) ?_
    refine k_iload hO dX8_init_64 0 rfl ?_
    refine k_ldcS hO rfl dX8_init_66 ?_
    refine k_strlen hO w295 (Nat.le_of_ble_eq_true rfl) (Nat.le_of_ble_eq_true rfl) (Nat.le_of_ble_eq_true rfl) (Nat.le_of_ble_eq_true rfl) (Nat.le_of_ble_eq_true rfl) dX8_init_68 ?_
    refine k_icmp_geF (pc := 71) hO dX8_init_71 (tgt := 141) (by decide) (by decide) ?_
    refine k_ldcS hO rfl dX8_init_74 ?_
    refine k_iload hO dX8_init_76 0 rfl ?_
    refine k_charAt hO (k := 92) (v := 116) (Nat.le_of_ble_eq_true rfl) rfl rfl w305 (Nat.le_of_ble_eq_true rfl) (Nat.le_of_ble_eq_true rfl) (Nat.le_of_ble_eq_true rfl) (Nat.le_of_ble_eq_true rfl) (Nat.le_of_ble_eq_true rfl) dX8_init_78 ?_
    refine k_istore hO dX8_init_81 (by decide) (lv' := [(6, .int 116), (5, .int 92), (4, .int 3), (3, .int 4012), (2, .int 17), (0, .ref h0), (1, .ref p1)]) rfl ?_
    refine k_iload hO dX8_init_83 0 rfl ?_
    refine k_bipush hO dX8_init_85 ic_b_32 ?_
    refine k_icmp_eqF (pc := 87) hO dX8_init_87 (tgt := 109) (by decide) (by decide) ?_
    refine k_bipush hO dX8_init_90 ic_b_27 ?_
    refine k_iload_n hO dX8_init_92 3 rfl rfl ?_
    refine k_imul hO dX8_init_93 (v := 108324) (by decide) ?_
    refine k_iload hO dX8_init_94 0 rfl ?_
    refine k_iadd hO dX8_init_96 (v := 108440) (by decide) ?_
    refine k_bipush hO dX8_init_97 ic_b_97 ?_
    refine k_isub hO dX8_init_99 (v := 108343) (by decide) ?_
    refine k_iconst hO dX8_init_100 ic_i_1 ?_
    refine k_iadd hO dX8_init_101 (v := 108344) (by decide) ?_
    refine k_istore_n hO dX8_init_102 rfl (by decide) (lv' := [(3, .int 108344), (6, .int 116), (5, .int 92), (4, .int 3), (2, .int 17), (0, .ref h0), (1, .ref p1)]) rfl ?_
    refine k_iinc hO dX8_init_103 3 rfl (v := 4) (by decide) (by decide) (lv' := [(4, .int 4), (3, .int 108344), (6, .int 116), (5, .int 92), (2, .int 17), (0, .ref h0), (1, .ref p1)]) rfl ?_
    refine k_goto (pc := 106) hO dX8_init_106 (tgt := 135) (by decide) ?_
    refine k_iinc hO dX8_init_135 3 rfl (v := 93) (by decide) (by decide) (lv' := [(5, .int 93), (4, .int 4), (3, .int 108344), (6, .int 116), (2, .int 17), (0, .ref h0), (1, .ref p1)]) rfl ?_
    refine k_goto (pc := 138) hO dX8_init_138 (tgt := 64) (by decide) ?_
    refine k_iload hO dX8_init_64 0 rfl ?_
    refine k_ldcS hO rfl dX8_init_66 ?_
    refine k_strlen hO w295 (Nat.le_of_ble_eq_true rfl) (Nat.le_of_ble_eq_true rfl) (Nat.le_of_ble_eq_true rfl) (Nat.le_of_ble_eq_true rfl) (Nat.le_of_ble_eq_true rfl) dX8_init_68 ?_
    refine k_icmp_geF (pc := 71) hO dX8_init_71 (tgt := 141) (by decide) (by decide) ?_
    refine k_ldcS hO rfl dX8_init_74 ?_
    refine k_iload hO dX8_init_76 0 rfl ?_
    refine k_charAt hO (k := 93) (v := 121) (Nat.le_of_ble_eq_true rfl) rfl rfl w305 (Nat.le_of_ble_eq_true rfl) (Nat.le_of_ble_eq_true rfl) (Nat.le_of_ble_eq_true rfl) (Nat.le_of_ble_eq_true rfl) (Nat.le_of_ble_eq_true rfl) dX8_init_78 ?_
    refine k_istore hO dX8_init_81 (by decide) (lv' := [(6, .int 121), (5, .int 93), (4, .int 4), (3, .int 108344), (2, .int 17), (0, .ref h0), (1, .ref p1)]) rfl ?_
    refine k_iload hO dX8_init_83 0 rfl ?_
    refine k_bipush hO dX8_init_85 ic_b_32 ?_
    refine k_icmp_eqF (pc := 87) hO dX8_init_87 (tgt := 109) (by decide) (by decide) ?_
    refine k_bipush hO dX8_init_90 ic_b_27 ?_
    refine k_iload_n hO dX8_init_92 3 rfl rfl ?_
    refine k_imul hO dX8_init_93 (v := 2925288) (by decide) ?_
    refine k_iload hO dX8_init_94 0 rfl ?_
    refine k_iadd hO dX8_init_96 (v := 2925409) (by decide) ?_
    refine k_bipush hO dX8_init_97 ic_b_97 ?_
    refine k_isub hO dX8_init_99 (v := 2925312) (by decide) ?_
    refine k_iconst hO dX8_init_100 ic_i_1 ?_
    refine k_iadd hO dX8_init_101 (v := 2925313) (by decide) ?_
    refine k_istore_n hO dX8_init_102 rfl (by decide) (lv' := [(3, .int 2925313), (6, .int 121), (5, .int 93), (4, .int 4), (2, .int 17), (0, .ref h0), (1, .ref p1)]) rfl ?_
    refine k_iinc hO dX8_init_103 3 rfl (v := 5) (by decide) (by decide) (lv' := [(4, .int 5), (3, .int 2925313), (6, .int 121), (5, .int 93), (2, .int 17), (0, .ref h0), (1, .ref p1)]) rfl ?_
    refine k_goto (pc := 106) hO dX8_init_106 (tgt := 135) (by decide) ?_
    refine k_iinc hO dX8_init_135 3 rfl (v := 94) (by decide) (by decide) (lv' := [(5, .int 94), (4, .int 5), (3, .int 2925313), (6, .int 121), (2, .int 17), (0, .ref h0), (1, .ref p1)]) rfl ?_
    refine k_goto (pc := 138) hO dX8_init_138 (tgt := 64) (by decide) ?_
    refine k_iload hO dX8_init_64 0 rfl ?_
    refine k_ldcS hO rfl dX8_init_66 ?_
    refine k_strlen hO w295 (Nat.le_of_ble_eq_true rfl) (Nat.le_of_ble_eq_true rfl) (Nat.le_of_ble_eq_true rfl) (Nat.le_of_ble_eq_true rfl) (Nat.le_of_ble_eq_true rfl) dX8_init_68 ?_
    refine k_icmp_geF (pc := 71) hO dX8_init_71 (tgt := 141) (by decide) (by decide) ?_
    refine k_ldcS hO rfl dX8_init_74 ?_
    refine k_iload hO dX8_init_76 0 rfl ?_
    refine k_charAt hO (k := 94) (v := 32) (Nat.le_of_ble_eq_true rfl) rfl rfl w305 (Nat.le_of_ble_eq_true rfl) (Nat.le_of_ble_eq_true rfl) (Nat.le_of_ble_eq_true rfl) (Nat.le_of_ble_eq_true rfl) (Nat.le_of_ble_eq_true rfl) dX8_init_78 ?_
    refine k_istore hO dX8_init_81 (by decide) (lv' := [(6, .int 32), (5, .int 94), (4, .int 5), (3, .int 2925313), (2, .int 17), (0, .ref h0), (1, .ref p1)]) rfl ?_
    refine k_iload hO dX8_init_83 0 rfl ?_
    refine k_bipush hO dX8_init_85 ic_b_32 ?_
    refine k_icmp_eqT (pc := 87) hO dX8_init_87 (tgt := 109) (by decide) (by decide) ?_
    refine k_iload_n hO dX8_init_109 4 rfl rfl ?_
    refine k_bipush hO dX8_init_110 ic_b_25 ?_
    refine k_icmp_geF (pc := 112) hO dX8_init_112 (tgt := 135) (by decide) (by decide) ?_
    refine k_aload_n hO dX8_init_115 5 rfl rfl ?_
    refine k_get hO flX8_11 0 rfl (v := .ref q7) rfl dX8_init_116 ?_
    refine k_iload_n hO dX8_init_119 4 rfl rfl ?_
    refine k_iload_n hO dX8_init_120 3 rfl rfl ?_
    refine k_iload hO dX8_init_121 2 rfl ?_
    refine k_fill hO fu_2925313_5 w343 (Nat.le_of_ble_eq_true rfl) (Nat.le_of_ble_eq_true rfl) (Nat.le_of_ble_eq_true rfl) (Nat.le_of_ble_eq_true rfl) (Nat.le_of_ble_eq_true rfl) dX8_init_123 ?_
    refine k_iast hO 1 rfl (by decide) (k := 17) (by decide) (ws' := [(h0, .inr (8, [.ref p1, .ref q7, .int 259, .int 0, .int 0, .int 0, .int 0, .int 0, .int (-1)])), (q7, .inl (cy 0, 25, .inl (upd (upd (upd (upd (upd (upd (upd (upd (upd (upd (upd (upd (upd (upd (upd (upd (upd (upd (fun _ => 0) 0 291417210) 1 332864532) 2 173107395) 3 51382989) 4 266274540) 5 294949755) 6 283368645) 7 230359626) 8 115696674) 9 65554785) 10 24977727) 11 123189336) 12 273666600) 13 108693171) 14 230501781) 15 117687573) 16 191610176) 17 78983451)))]) rfl dX8_init_126 ?_
    refine k_iinc hO dX8_init_127 4 rfl (v := 18) (by decide) (by decide) (lv' := [(2, .int 18), (6, .int 32), (5, .int 94), (4, .int 5), (3, .int 2925313), (0, .ref h0), (1, .ref p1)]) rfl ?_
    refine k_iconst hO dX8_init_130 ic_i_0 ?_
    refine k_istore_n hO dX8_init_131 rfl (by decide) (lv' := [(3, .int 0), (2, .int 18), (6, .int 32), (5, .int 94), (4, .int 5), (0, .ref h0), (1, .ref p1)]) rfl ?_
    refine k_iconst hO dX8_init_132 ic_i_0 ?_
    refine k_istore hO dX8_init_133 (by decide) (lv' := [(4, .int 0), (3, .int 0), (2, .int 18), (6, .int 32), (5, .int 94), (0, .ref h0), (1, .ref p1)]) rfl ?_
    refine k_iinc hO dX8_init_135 4 rfl (v := 95) (by decide) (by decide) (lv' := [(5, .int 95), (4, .int 0), (3, .int 0), (2, .int 18), (6, .int 32), (0, .ref h0), (1, .ref p1)]) rfl ?_
    refine k_goto (pc := 138) hO dX8_init_138 (tgt := 64) (by decide) ?_
    refine k_iload hO dX8_init_64 0 rfl ?_
    refine k_ldcS hO rfl dX8_init_66 ?_
    refine k_strlen hO w295 (Nat.le_of_ble_eq_true rfl) (Nat.le_of_ble_eq_true rfl) (Nat.le_of_ble_eq_true rfl) (Nat.le_of_ble_eq_true rfl) (Nat.le_of_ble_eq_true rfl) dX8_init_68 ?_
    refine k_icmp_geF (pc := 71) hO dX8_init_71 (tgt := 141) (by decide) (by decide) ?_
    refine k_ldcS hO rfl dX8_init_74 ?_
    refine k_iload hO dX8_init_76 0 rfl ?_
    refine k_charAt hO (k := 95) (v := 105) (Nat.le_of_ble_eq_true rfl) rfl rfl w305 (Nat.le_of_ble_eq_true rfl) (Nat.le_of_ble_eq_true rfl) (Nat.le_of_ble_eq_true rfl) (Nat.le_of_ble_eq_true rfl) (Nat.le_of_ble_eq_true rfl) dX8_init_78 ?_
    refine k_istore hO dX8_init_81 (by decide) (lv' := [(6, .int 105), (5, .int 95), (4, .int 0), (3, .int 0), (2, .int 18), (0, .ref h0), (1, .ref p1)]) rfl ?_
    refine k_iload hO dX8_init_83 0 rfl ?_
    refine k_bipush hO dX8_init_85 ic_b_32 ?_
    refine k_icmp_eqF (pc := 87) hO dX8_init_87 (tgt := 109) (by decide) (by decide) ?_
    refine k_bipush hO dX8_init_90 ic_b_27 ?_
    refine k_iload_n hO dX8_init_92 3 rfl rfl ?_
    refine k_imul hO dX8_init_93 (v := 0) (by decide) ?_
    refine k_iload hO dX8_init_94 0 rfl ?_
    refine k_iadd hO dX8_init_96 (v := 105) (by decide) ?_
    refine k_bipush hO dX8_init_97 ic_b_97 ?_
    refine k_isub hO dX8_init_99 (v := 8) (by decide) ?_
    refine k_iconst hO dX8_init_100 ic_i_1 ?_
    refine k_iadd hO dX8_init_101 (v := 9) (by decide) ?_
    refine k_istore_n hO dX8_init_102 rfl (by decide) (lv' := [(3, .int 9), (6, .int 105), (5, .int 95), (4, .int 0), (2, .int 18), (0, .ref h0), (1, .ref p1)]) rfl ?_
    refine k_iinc hO dX8_init_103 3 rfl (v := 1) (by decide) (by decide) (lv' := [(4, .int 1), (3, .int 9), (6, .int 105), (5, .int 95), (2, .int 18), (0, .ref h0), (1, .ref p1)]) rfl ?_
    refine k_goto (pc := 106) hO dX8_init_106 (tgt := 135) (by decide) ?_
    refine k_iinc hO dX8_init_135 3 rfl (v := 96) (by decide) (by decide) (lv' := [(5, .int 96), (4, .int 1), (3, .int 9), (6, .int 105), (2, .int 18), (0, .ref h0), (1, .ref p1)]) rfl ?_
    refine k_goto (pc := 138) hO dX8_init_138 (tgt := 64) (by decide) ?_
    refine k_iload hO dX8_init_64 0 rfl ?_
    refine k_ldcS hO rfl dX8_init_66 ?_
    refine k_strlen hO w295 (Nat.le_of_ble_eq_true rfl) (Nat.le_of_ble_eq_true rfl) (Nat.le_of_ble_eq_true rfl) (Nat.le_of_ble_eq_true rfl) (Nat.le_of_ble_eq_true rfl) dX8_init_68 ?_
    refine k_icmp_geF (pc := 71) hO dX8_init_71 (tgt := 141) (by decide) (by decide) ?_
    refine k_ldcS hO rfl dX8_init_74 ?_
    refine k_iload hO dX8_init_76 0 rfl ?_
    refine k_charAt hO (k := 96) (v := 102) (Nat.le_of_ble_eq_true rfl) rfl rfl w305 (Nat.le_of_ble_eq_true rfl) (Nat.le_of_ble_eq_true rfl) (Nat.le_of_ble_eq_true rfl) (Nat.le_of_ble_eq_true rfl) (Nat.le_of_ble_eq_true rfl) dX8_init_78 ?_
    refine k_istore hO dX8_init_81 (by decide) (lv' := [(6, .int 102), (5, .int 96), (4, .int 1), (3, .int 9), (2, .int 18), (0, .ref h0), (1, .ref p1)]) rfl ?_
    refine k_iload hO dX8_init_83 0 rfl ?_
    refine k_bipush hO dX8_init_85 ic_b_32 ?_
    refine k_icmp_eqF (pc := 87) hO dX8_init_87 (tgt := 109) (by decide) (by decide) ?_
    refine k_bipush hO dX8_init_90 ic_b_27 ?_
    refine k_iload_n hO dX8_init_92 3 rfl rfl ?_
    refine k_imul hO dX8_init_93 (v := 243) (by decide) ?_
    refine k_iload hO dX8_init_94 0 rfl ?_
    refine k_iadd hO dX8_init_96 (v := 345) (by decide) ?_
    refine k_bipush hO dX8_init_97 ic_b_97 ?_
    refine k_isub hO dX8_init_99 (v := 248) (by decide) ?_
    refine k_iconst hO dX8_init_100 ic_i_1 ?_
    refine k_iadd hO dX8_init_101 (v := 249) (by decide) ?_
    refine k_istore_n hO dX8_init_102 rfl (by decide) (lv' := [(3, .int 249), (6, .int 102), (5, .int 96), (4, .int 1), (2, .int 18), (0, .ref h0), (1, .ref p1)]) rfl ?_
    refine k_iinc hO dX8_init_103 3 rfl (v := 2) (by decide) (by decide) (lv' := [(4, .int 2), (3, .int 249), (6, .int 102), (5, .int 96), (2, .int 18), (0, .ref h0), (1, .ref p1)]) rfl ?_
    refine k_goto (pc := 106) hO dX8_init_106 (tgt := 135) (by decide) ?_
    refine k_iinc hO dX8_init_135 3 rfl (v := 97) (by decide) (by decide) (lv' := [(5, .int 97), (4, .int 2), (3, .int 249), (6, .int 102), (2, .int 18), (0, .ref h0), (1, .ref p1)]) rfl ?_
    refine k_goto (pc := 138) hO dX8_init_138 (tgt := 64) (by decide) ?_
    refine k_iload hO dX8_init_64 0 rfl ?_
    refine k_ldcS hO rfl dX8_init_66 ?_
    refine k_strlen hO w295 (Nat.le_of_ble_eq_true rfl) (Nat.le_of_ble_eq_true rfl) (Nat.le_of_ble_eq_true rfl) (Nat.le_of_ble_eq_true rfl) (Nat.le_of_ble_eq_true rfl) dX8_init_68 ?_
    refine k_icmp_geF (pc := 71) hO dX8_init_71 (tgt := 141) (by decide) (by decide) ?_
    refine k_ldcS hO rfl dX8_init_74 ?_
    refine k_iload hO dX8_init_76 0 rfl ?_
    refine k_charAt hO (k := 97) (v := 32) (Nat.le_of_ble_eq_true rfl) rfl rfl w305 (Nat.le_of_ble_eq_true rfl) (Nat.le_of_ble_eq_true rfl) (Nat.le_of_ble_eq_true rfl) (Nat.le_of_ble_eq_true rfl) (Nat.le_of_ble_eq_true rfl) dX8_init_78 ?_
    refine k_istore hO dX8_init_81 (by decide) (lv' := [(6, .int 32), (5, .int 97), (4, .int 2), (3, .int 249), (2, .int 18), (0, .ref h0), (1, .ref p1)]) rfl ?_
    refine k_iload hO dX8_init_83 0 rfl ?_
    refine k_bipush hO dX8_init_85 ic_b_32 ?_
    refine k_icmp_eqT (pc := 87) hO dX8_init_87 (tgt := 109) (by decide) (by decide) ?_
    refine k_iload_n hO dX8_init_109 4 rfl rfl ?_
    refine k_bipush hO dX8_init_110 ic_b_25 ?_
    refine k_icmp_geF (pc := 112) hO dX8_init_112 (tgt := 135) (by decide) (by decide) ?_
    refine k_aload_n hO dX8_init_115 5 rfl rfl ?_
    refine k_get hO flX8_11 0 rfl (v := .ref q7) rfl dX8_init_116 ?_
    refine k_iload_n hO dX8_init_119 4 rfl rfl ?_
    refine k_iload_n hO dX8_init_120 3 rfl rfl ?_
    refine k_iload hO dX8_init_121 2 rfl ?_
    refine k_fill hO fu_249_2 w343 (Nat.le_of_ble_eq_true rfl) (Nat.le_of_ble_eq_true rfl) (Nat.le_of_ble_eq_true rfl) (Nat.le_of_ble_eq_true rfl) (Nat.le_of_ble_eq_true rfl) dX8_init_123 ?_
    refine k_iast hO 1 rfl (by decide) (k := 18) (by decide) (ws' := [(h0, .inr (8, [.ref p1, .ref q7, .int 259, .int 0, .int 0, .int 0, .int 0, .int 0, .int (-1)])), (q7, .inl (cy 0, 25, .inl (upd (upd (upd (upd (upd (upd (upd (upd (upd (upd (upd (upd (upd (upd (upd (upd (upd (upd (upd (fun _ => 0) 0 291417210) 1 332864532) 2 173107395) 3 51382989) 4 266274540) 5 294949755) 6 283368645) 7 230359626) 8 115696674) 9 65554785) 10 24977727) 11 123189336) 12 273666600) 13 108693171) 14 230501781) 15 117687573) 16 191610176) 17 78983451) 18 132328809)))]) rfl dX8_init_126 ?_
    refine k_iinc hO dX8_init_127 4 rfl (v := 19) (by decide) (by decide) (lv' := [(2, .int 19), (6, .int 32), (5, .int 97), (4, .int 2), (3, .int 249), (0, .ref h0), (1, .ref p1)]) rfl ?_
    refine k_iconst hO dX8_init_130 ic_i_0 ?_
    refine k_istore_n hO dX8_init_131 rfl (by decide) (lv' := [(3, .int 0), (2, .int 19), (6, .int 32), (5, .int 97), (4, .int 2), (0, .ref h0), (1, .ref p1)]) rfl ?_
    refine k_iconst hO dX8_init_132 ic_i_0 ?_
    refine k_istore hO dX8_init_133 (by decide) (lv' := [(4, .int 0), (3, .int 0), (2, .int 19), (6, .int 32), (5, .int 97), (0, .ref h0), (1, .ref p1)]) rfl ?_
    refine k_iinc hO dX8_init_135 4 rfl (v := 98) (by decide) (by decide) (lv' := [(5, .int 98), (4, .int 0), (3, .int 0), (2, .int 19), (6, .int 32), (0, .ref h0), (1, .ref p1)]) rfl ?_
    refine k_goto (pc := 138) hO dX8_init_138 (tgt := 64) (by decide) ?_
    refine k_iload hO dX8_init_64 0 rfl ?_
    refine k_ldcS hO rfl dX8_init_66 ?_
    refine k_strlen hO w295 (Nat.le_of_ble_eq_true rfl) (Nat.le_of_ble_eq_true rfl) (Nat.le_of_ble_eq_true rfl) (Nat.le_of_ble_eq_true rfl) (Nat.le_of_ble_eq_true rfl) dX8_init_68 ?_
    refine k_icmp_geF (pc := 71) hO dX8_init_71 (tgt := 141) (by decide) (by decide) ?_
    refine k_ldcS hO rfl dX8_init_74 ?_
    refine k_iload hO dX8_init_76 0 rfl ?_
    refine k_charAt hO (k := 98) (v := 111) (Nat.le_of_ble_eq_true rfl) rfl rfl w305 (Nat.le_of_ble_eq_true rfl) (Nat.le_of_ble_eq_true rfl) (Nat.le_of_ble_eq_true rfl) (Nat.le_of_ble_eq_true rfl) (Nat.le_of_ble_eq_true rfl) dX8_init_78 ?_
    refine k_istore hO dX8_init_81 (by decide) (lv' := [(6, .int 111), (5, .int 98), (4, .int 0), (3, .int 0), (2, .int 19), (0, .ref h0), (1, .ref p1)]) rfl ?_
    refine k_iload hO dX8_init_83 0 rfl ?_
    refine k_bipush hO dX8_init_85 ic_b_32 ?_
    refine k_icmp_eqF (pc := 87) hO dX8_init_87 (tgt := 109) (by decide) (by decide) ?_
    refine k_bipush hO dX8_init_90 ic_b_27 ?_
    refine k_iload_n hO dX8_init_92 3 rfl rfl ?_
    refine k_imul hO dX8_init_93 (v := 0) (by decide) ?_
    refine k_iload hO dX8_init_94 0 rfl ?_
    refine k_iadd hO dX8_init_96 (v := 111) (by decide) ?_
    refine k_bipush hO dX8_init_97 ic_b_97 ?_
    refine k_isub hO dX8_init_99 (v := 14) (by decide) ?_
    refine k_iconst hO dX8_init_100 ic_i_1 ?_
    refine k_iadd hO dX8_init_101 (v := 15) (by decide) ?_
    refine k_istore_n hO dX8_init_102 rfl (by decide) (lv' := [(3, .int 15), (6, .int 111), (5, .int 98), (4, .int 0), (2, .int 19), (0, .ref h0), (1, .ref p1)]) rfl ?_
    refine k_iinc hO dX8_init_103 3 rfl (v := 1) (by decide) (by decide) (lv' := [(4, .int 1), (3, .int 15), (6, .int 111), (5, .int 98), (2, .int 19), (0, .ref h0), (1, .ref p1)]) rfl ?_
    refine k_goto (pc := 106) hO dX8_init_106 (tgt := 135) (by decide) ?_
    refine k_iinc hO dX8_init_135 3 rfl (v := 99) (by decide) (by decide) (lv' := [(5, .int 99), (4, .int 1), (3, .int 15), (6, .int 111), (2, .int 19), (0, .ref h0), (1, .ref p1)]) rfl ?_
    refine k_goto (pc := 138) hO dX8_init_138 (tgt := 64) (by decide) ?_
    refine k_iload hO dX8_init_64 0 rfl ?_
    refine k_ldcS hO rfl dX8_init_66 ?_
    refine k_strlen hO w295 (Nat.le_of_ble_eq_true rfl) (Nat.le_of_ble_eq_true rfl) (Nat.le_of_ble_eq_true rfl) (Nat.le_of_ble_eq_true rfl) (Nat.le_of_ble_eq_true rfl) dX8_init_68 ?_
    refine k_icmp_geF (pc := 71) hO dX8_init_71 (tgt := 141) (by decide) (by decide) ?_
    refine k_ldcS hO rfl dX8_init_74 ?_
    refine k_iload hO dX8_init_76 0 rfl ?_
    refine k_charAt hO (k := 99) (v := 114) (Nat.le_of_ble_eq_true rfl) rfl rfl w305 (Nat.le_of_ble_eq_true rfl) (Nat.le_of_ble_eq_true rfl) (Nat.le_of_ble_eq_true rfl) (Nat.le_of_ble_eq_true rfl) (Nat.le_of_ble_eq_true rfl) dX8_init_78 ?_
    refine k_istore hO dX8_init_81 (by decide) (lv' := [(6, .int 114), (5, .int 99), (4, .int 1), (3, .int 15), (2, .int 19), (0, .ref h0), (1, .ref p1)]) rfl ?_
    refine k_iload hO dX8_init_83 0 rfl ?_
    refine k_bipush hO dX8_init_85 ic_b_32 ?_
    refine k_icmp_eqF (pc := 87) hO dX8_init_87 (tgt := 109) (by decide) (by decide) ?_
    refine k_bipush hO dX8_init_90 ic_b_27 ?_
    refine k_iload_n hO dX8_init_92 3 rfl rfl ?_
    refine k_imul hO dX8_init_93 (v := 405) (by decide) ?_
    refine k_iload hO dX8_init_94 0 rfl ?_
    refine k_iadd hO dX8_init_96 (v := 519) (by decide) ?_
    refine k_bipush hO dX8_init_97 ic_b_97 ?_
    refine k_isub hO dX8_init_99 (v := 422) (by decide) ?_
    refine k_iconst hO dX8_init_100 ic_i_1 ?_
    refine k_iadd hO dX8_init_101 (v := 423) (by decide) ?_
    refine k_istore_n hO dX8_init_102 rfl (by decide) (lv' := [(3, .int 423), (6, .int 114), (5, .int 99), (4, .int 1), (2, .int 19), (0, .ref h0), (1, .ref p1)]) rfl ?_
    refine k_iinc hO dX8_init_103 3 rfl (v := 2) (by decide) (by decide) (lv' := [(4, .int 2), (3, .int 423), (6, .int 114), (5, .int 99), (2, .int 19), (0, .ref h0), (1, .ref p1)]) rfl ?_
    refine k_goto (pc := 106) hO dX8_init_106 (tgt := 135) (by decide) ?_
    refine k_iinc hO dX8_init_135 3 rfl (v := 100) (by decide) (by decide) (lv' := [(5, .int 100), (4, .int 2), (3, .int 423), (6, .int 114), (2, .int 19), (0, .ref h0), (1, .ref p1)]) rfl ?_
    refine k_goto (pc := 138) hO dX8_init_138 (tgt := 64) (by decide) ?_
    refine k_iload hO dX8_init_64 0 rfl ?_
    refine k_ldcS hO rfl dX8_init_66 ?_
    refine k_strlen hO w295 (Nat.le_of_ble_eq_true rfl) (Nat.le_of_ble_eq_true rfl) (Nat.le_of_ble_eq_true rfl) (Nat.le_of_ble_eq_true rfl) (Nat.le_of_ble_eq_true rfl) dX8_init_68 ?_
    refine k_icmp_geF (pc := 71) hO dX8_init_71 (tgt := 141) (by decide) (by decide) ?_
    refine k_ldcS hO rfl dX8_init_74 ?_
    refine k_iload hO dX8_init_76 0 rfl ?_
    refine k_charAt hO (k := 100) (v := 32) (Nat.le_of_ble_eq_true rfl) rfl rfl w305 (Nat.le_of_ble_eq_true rfl) (Nat.le_of_ble_eq_true rfl) (Nat.le_of_ble_eq_true rfl) (Nat.le_of_ble_eq_true rfl) (Nat.le_of_ble_eq_true rfl) dX8_init_78 ?_
    refine k_istore hO dX8_init_81 (by decide) (lv' := [(6, .int 32), (5, .int 100), (4, .int 2), (3, .int 423), (2, .int 19), (0, .ref h0), (1, .ref p1)]) rfl ?_
    refine k_iload hO dX8_init_83 0 rfl ?_
    refine k_bipush hO dX8_init_85 ic_b_32 ?_
    refine k_icmp_eqT (pc := 87) hO dX8_init_87 (tgt := 109) (by decide) (by decide) ?_
    refine k_iload_n hO dX8_init_109 4 rfl rfl ?_
    refine k_bipush hO dX8_init_110 ic_b_25 ?_
    refine k_icmp_geF (pc := 112) hO dX8_init_112 (tgt := 135) (by decide) (by decide) ?_
    refine k_aload_n hO dX8_init_115 5 rfl rfl ?_
    refine k_get hO flX8_11 0 rfl (v := .ref q7) rfl dX8_init_116 ?_
    refine k_iload_n hO dX8_init_119 4 rfl rfl ?_
    refine k_iload_n hO dX8_init_120 3 rfl rfl ?_
    refine k_iload hO dX8_init_121 2 rfl ?_
    refine k_fill hO fu_423_2 w343 (Nat.le_of_ble_eq_true rfl) (Nat.le_of_ble_eq_true rfl) (Nat.le_of_ble_eq_true rfl) (Nat.le_of_ble_eq_true rfl) (Nat.le_of_ble_eq_true rfl) dX8_init_123 ?_
    refine k_iast hO 1 rfl (by decide) (k := 19) (by decide) (ws' := [(h0, .inr (8, [.ref p1, .ref q7, .int 259, .int 0, .int 0, .int 0, .int 0, .int 0, .int (-1)])), (q7, .inl (cy 0, 25, .inl (upd (upd (upd (upd (upd (upd (upd (upd (upd (upd (upd (upd (upd (upd (upd (upd (upd (upd (upd (upd (fun _ => 0) 0 291417210) 1 332864532) 2 173107395) 3 51382989) 4 266274540) 5 294949755) 6 283368645) 7 230359626) 8 115696674) 9 65554785) 10 24977727) 11 123189336) 12 273666600) 13 108693171) 14 230501781) 15 117687573) 16 191610176) 17 78983451) 18 132328809) 19 224799543)))]) rfl dX8_init_126 ?_
    refine k_iinc hO dX8_init_127 4 rfl (v := 20) (by decide) (by decide) (lv' := [(2, .int 20), (6, .int 32), (5, .int 100), (4, .int 2), (3, .int 423), (0, .ref h0), (1, .ref p1)]) rfl ?_
    refine k_iconst hO dX8_init_130 ic_i_0 ?_
    refine k_istore_n hO dX8_init_131 rfl (by decide) (lv' := [(3, .int 0), (2, .int 20), (6, .int 32), (5, .int 100), (4, .int 2), (0, .ref h0), (1, .ref p1)]) rfl ?_
    refine k_iconst hO dX8_init_132 ic_i_0 ?_
    refine k_istore hO dX8_init_133 (by decide) (lv' := [(4, .int 0), (3, .int 0), (2, .int 20), (6, .int 32), (5, .int 100), (0, .ref h0), (1, .ref p1)]) rfl ?_
    refine k_iinc hO dX8_init_135 4 rfl (v := 101) (by decide) (by decide) (lv' := [(5, .int 101), (4, .int 0), (3, .int 0), (2, .int 20), (6, .int 32), (0, .ref h0), (1, .ref p1)]) rfl ?_
    refine k_goto (pc := 138) hO dX8_init_138 (tgt := 64) (by decide) ?_
    refine k_iload hO dX8_init_64 0 rfl ?_
    refine k_ldcS hO rfl dX8_init_66 ?_
    refine k_strlen hO w295 (Nat.le_of_ble_eq_true rfl) (Nat.le_of_ble_eq_true rfl) (Nat.le_of_ble_eq_true rfl) (Nat.le_of_ble_eq_true rfl) (Nat.le_of_ble_eq_true rfl) dX8_init_68 ?_
    refine k_icmp_geF (pc := 71) hO dX8_init_71 (tgt := 141) (by decide) (by decide) ?_
    refine k_ldcS hO rfl dX8_init_74 ?_
    refine k_iload hO dX8_init_76 0 rfl ?_
    refine k_charAt hO (k := 101) (v := 97) (Nat.le_of_ble_eq_true rfl) rfl rfl w305 (Nat.le_of_ble_eq_true rfl) (Nat.le_of_ble_eq_true rfl) (Nat.le_of_ble_eq_true rfl) (Nat.le_of_ble_eq_true rfl) (Nat.le_of_ble_eq_true rfl) dX8_init_78 ?_
    refine k_istore hO dX8_init_81 (by decide) (lv' := [(6, .int 97), (5, .int 101), (4, .int 0), (3, .int 0), (2, .int 20), (0, .ref h0), (1, .ref p1)]) rfl ?_
    refine k_iload hO dX8_init_83 0 rfl ?_
    refine k_bipush hO dX8_init_85 ic_b_32 ?_
    refine k_icmp_eqF (pc := 87) hO dX8_init_87 (tgt := 109) (by decide) (by decide) ?_
    refine k_bipush hO dX8_init_90 ic_b_27 ?_
    refine k_iload_n hO dX8_init_92 3 rfl rfl ?_
    refine k_imul hO dX8_init_93 (v := 0) (by decide) ?_
    refine k_iload hO dX8_init_94 0 rfl ?_
    refine k_iadd hO dX8_init_96 (v := 97) (by decide) ?_
    refine k_bipush hO dX8_init_97 ic_b_97 ?_
    refine k_isub hO dX8_init_99 (v := 0) (by decide) ?_
    refine k_iconst hO dX8_init_100 ic_i_1 ?_
    refine k_iadd hO dX8_init_101 (v := 1) (by decide) ?_
    refine k_istore_n hO dX8_init_102 rfl (by decide) (lv' := [(3, .int 1), (6, .int 97), (5, .int 101), (4, .int 0), (2, .int 20), (0, .ref h0), (1, .ref p1)]) rfl ?_
    refine k_iinc hO dX8_init_103 3 rfl (v := 1) (by decide) (by decide) (lv' := [(4, .int 1), (3, .int 1), (6, .int 97), (5, .int 101), (2, .int 20), (0, .ref h0), (1, .ref p1)]) rfl ?_
    refine k_goto (pc := 106) hO dX8_init_106 (tgt := 135) (by decide) ?_
    refine k_iinc hO dX8_init_135 3 rfl (v := 102) (by decide) (by decide) (lv' := [(5, .int 102), (4, .int 1), (3, .int 1), (6, .int 97), (2, .int 20), (0, .ref h0), (1, .ref p1)]) rfl ?_
    refine k_goto (pc := 138) hO dX8_init_138 (tgt := 64) (by decide) ?_
    refine k_iload hO dX8_init_64 0 rfl ?_
    refine k_ldcS hO rfl dX8_init_66 ?_
    refine k_strlen hO w295 (Nat.le_of_ble_eq_true rfl) (Nat.le_of_ble_eq_true rfl) (Nat.le_of_ble_eq_true rfl) (Nat.le_of_ble_eq_true rfl) (Nat.le_of_ble_eq_true rfl) dX8_init_68 ?_
    refine k_icmp_geF (pc := 71) hO dX8_init_71 (tgt := 141) (by decide) (by decide) ?_
    refine k_ldcS hO rfl dX8_init_74 ?_
    refine k_iload hO dX8_init_76 0 rfl ?_
    refine k_charAt hO (k := 102) (v := 110) (Nat.le_of_ble_eq_true rfl) rfl rfl w305 (Nat.le_of_ble_eq_true rfl) (Nat.le_of_ble_eq_true rfl) (Nat.le_of_ble_eq_true rfl) (Nat.le_of_ble_eq_true rfl) (Nat.le_of_ble_eq_true rfl) dX8_init_78 ?_
    refine k_istore hO dX8_init_81 (by decide) (lv' := [(6, .int 110), (5, .int 102), (4, .int 1), (3, .int 1), (2, .int 20), (0, .ref h0), (1, .ref p1)]) rfl ?_
    refine k_iload hO dX8_init_83 0 rfl ?_
    refine k_bipush hO dX8_init_85 ic_b_32 ?_
    refine k_icmp_eqF (pc := 87) hO dX8_init_87 (tgt := 109) (by decide) (by decide) ?_
    refine k_bipush hO dX8_init_90 ic_b_27 ?_
    refine k_iload_n hO dX8_init_92 3 rfl rfl ?_
    refine k_imul hO dX8_init_93 (v := 27) (by decide) ?_
    refine k_iload hO dX8_init_94 0 rfl ?_
    refine k_iadd hO dX8_init_96 (v := 137) (by decide) ?_
    refine k_bipush hO dX8_init_97 ic_b_97 ?_
    refine k_isub hO dX8_init_99 (v := 40) (by decide) ?_
    refine k_iconst hO dX8_init_100 ic_i_1 ?_
    refine k_iadd hO dX8_init_101 (v := 41) (by decide) ?_
    refine k_istore_n hO dX8_init_102 rfl (by decide) (lv' := [(3, .int 41), (6, .int 110), (5, .int 102), (4, .int 1), (2, .int 20), (0, .ref h0), (1, .ref p1)]) rfl ?_
    refine k_iinc hO dX8_init_103 3 rfl (v := 2) (by decide) (by decide) (lv' := [(4, .int 2), (3, .int 41), (6, .int 110), (5, .int 102), (2, .int 20), (0, .ref h0), (1, .ref p1)]) rfl ?_
    refine k_goto (pc := 106) hO dX8_init_106 (tgt := 135) (by decide) ?_
    refine k_iinc hO dX8_init_135 3 rfl (v := 103) (by decide) (by decide) (lv' := [(5, .int 103), (4, .int 2), (3, .int 41), (6, .int 110), (2, .int 20), (0, .ref h0), (1, .ref p1)]) rfl ?_
    refine k_goto (pc := 138) hO dX8_init_138 (tgt := 64) (by decide) ?_
    refine k_iload hO dX8_init_64 0 rfl ?_
    refine k_ldcS hO rfl dX8_init_66 ?_
    refine k_strlen hO w295 (Nat.le_of_ble_eq_true rfl) (Nat.le_of_ble_eq_true rfl) (Nat.le_of_ble_eq_true rfl) (Nat.le_of_ble_eq_true rfl) (Nat.le_of_ble_eq_true rfl) dX8_init_68 ?_
    refine k_icmp_geF (pc := 71) hO dX8_init_71 (tgt := 141) (by decide) (by decide) ?_
    refine k_ldcS hO rfl dX8_init_74 ?_
    refine k_iload hO dX8_init_76 0 rfl ?_
    refine k_charAt hO (k := 103) (v := 100) (Nat.le_of_ble_eq_true rfl) rfl rfl w305 (Nat.le_of_ble_eq_true rfl) (Nat.le_of_ble_eq_true rfl) (Nat.le_of_ble_eq_true rfl) (Nat.le_of_ble_eq_true rfl) (Nat.le_of_ble_eq_true rfl) dX8_init_78 ?_
    refine k_istore hO dX8_init_81 (by decide) (lv' := [(6, .int 100), (5, .int 103), (4, .int 2), (3, .int 41), (2, .int 20), (0, .ref h0), (1, .ref p1)]) rfl ?_
    refine k_iload hO dX8_init_83 0 rfl ?_
    refine k_bipush hO dX8_init_85 ic_b_32 ?_
    refine k_icmp_eqF (pc := 87) hO dX8_init_87 (tgt := 109) (by decide) (by decide) ?_
    refine k_bipush hO dX8_init_90 ic_b_27 ?_
    refine k_iload_n hO dX8_init_92 3 rfl rfl ?_
    refine k_imul hO dX8_init_93 (v := 1107) (by decide) ?_
    refine k_iload hO dX8_init_94 0 rfl ?_
    refine k_iadd hO dX8_init_96 (v := 1207) (by decide) ?_
    refine k_bipush hO dX8_init_97 ic_b_97 ?_
    refine k_isub hO dX8_init_99 (v := 1110) (by decide) ?_
    refine k_iconst hO dX8_init_100 ic_i_1 ?_
    refine k_iadd hO dX8_init_101 (v := 1111) (by decide) ?_
    refine k_istore_n hO dX8_init_102 rfl (by decide) (lv' := [(3, .int 1111), (6, .int 100), (5, .int 103), (4, .int 2), (2, .int 20), (0, .ref h0), (1, .ref p1)]) rfl ?_
    refine k_iinc hO dX8_init_103 3 rfl (v := 3) (by decide) (by decide) (lv' := [(4, .int 3), (3, .int 1111), (6, .int 100), (5, .int 103), (2, .int 20), (0, .ref h0), (1, .ref p1)]) rfl ?_
    refine k_goto (pc := 106) hO dX8_init_106 (tgt := 135) (by decide) ?_
    refine k_iinc hO dX8_init_135 3 rfl (v := 104) (by decide) (by decide) (lv' := [(5, .int 104), (4, .int 3), (3, .int 1111), (6, .int 100), (2, .int 20), (0, .ref h0), (1, .ref p1)]) rfl ?_
    refine k_goto (pc := 138) hO dX8_init_138 (tgt := 64) (by decide) ?_
    refine k_iload hO dX8_init_64 0 rfl ?_
    refine k_ldcS hO rfl dX8_init_66 ?_
    refine k_strlen hO w295 (Nat.le_of_ble_eq_true rfl) (Nat.le_of_ble_eq_true rfl) (Nat.le_of_ble_eq_true rfl) (Nat.le_of_ble_eq_true rfl) (Nat.le_of_ble_eq_true rfl) dX8_init_68 ?_
    refine k_icmp_geF (pc := 71) hO dX8_init_71 (tgt := 141) (by decide) (by decide) ?_
    refine k_ldcS hO rfl dX8_init_74 ?_
    refine k_iload hO dX8_init_76 0 rfl ?_
    refine k_charAt hO (k := 104) (v := 32) (Nat.le_of_ble_eq_true rfl) rfl rfl w305 (Nat.le_of_ble_eq_true rfl) (Nat.le_of_ble_eq_true rfl) (Nat.le_of_ble_eq_true rfl) (Nat.le_of_ble_eq_true rfl) (Nat.le_of_ble_eq_true rfl) dX8_init_78 ?_
    refine k_istore hO dX8_init_81 (by decide) (lv' := [(6, .int 32), (5, .int 104), (4, .int 3), (3, .int 1111), (2, .int 20), (0, .ref h0), (1, .ref p1)]) rfl ?_
    refine k_iload hO dX8_init_83 0 rfl ?_
    refine k_bipush hO dX8_init_85 ic_b_32 ?_
    refine k_icmp_eqT (pc := 87) hO dX8_init_87 (tgt := 109) (by decide) (by decide) ?_
    refine k_iload_n hO dX8_init_109 4 rfl rfl ?_
    refine k_bipush hO dX8_init_110 ic_b_25 ?_
    refine k_icmp_geF (pc := 112) hO dX8_init_112 (tgt := 135) (by decide) (by decide) ?_
    refine k_aload_n hO dX8_init_115 5 rfl rfl ?_
    refine k_get hO flX8_11 0 rfl (v := .ref q7) rfl dX8_init_116 ?_
    refine k_iload_n hO dX8_init_119 4 rfl rfl ?_
    refine k_iload_n hO dX8_init_120 3 rfl rfl ?_
    refine k_iload hO dX8_init_121 2 rfl ?_
    refine k_fill hO fu_1111_3 w343 (Nat.le_of_ble_eq_true rfl) (Nat.le_of_ble_eq_true rfl) (Nat.le_of_ble_eq_true rfl) (Nat.le_of_ble_eq_true rfl) (Nat.le_of_ble_eq_true rfl) dX8_init_123 ?_
    refine k_iast hO 1 rfl (by decide) (k := 20) (by decide) (ws' := [(h0, .inr (8, [.ref p1, .ref q7, .int 259, .int 0, .int 0, .int 0, .int 0, .int 0, .int (-1)])), (q7, .inl (cy 0, 25, .inl (upd (upd (upd (upd (upd (upd (upd (upd (upd (upd (upd (upd (upd (upd (upd (upd (upd (upd (upd (upd (upd (fun _ => 0) 0 291417210) 1 332864532) 2 173107395) 3 51382989) 4 266274540) 5 294949755) 6 283368645) 7 230359626) 8 115696674) 9 65554785) 10 24977727) 11 123189336) 12 273666600) 13 108693171) 14 230501781) 15 117687573) 16 191610176) 17 78983451) 18 132328809) 19 224799543) 20 21867813)))]) rfl dX8_init_126 ?_
    refine k_iinc hO dX8_init_127 4 rfl (v := 21) (by decide) (by decide) (lv' := [(2, .int 21), (6, .int 32), (5, .int 104), (4, .int 3), (3, .int 1111), (0, .ref h0), (1, .ref p1)]) rfl ?_
    refine k_iconst hO dX8_init_130 ic_i_0 ?_
    refine k_istore_n hO dX8_init_131 rfl (by decide) (lv' := [(3, .int 0), (2, .int 21), (6, .int 32), (5, .int 104), (4, .int 3), (0, .ref h0), (1, .ref p1)]) rfl ?_
    refine k_iconst hO dX8_init_132 ic_i_0 ?_
    refine k_istore hO dX8_init_133 (by decide) (lv' := [(4, .int 0), (3, .int 0), (2, .int 21), (6, .int 32), (5, .int 104), (0, .ref h0), (1, .ref p1)]) rfl ?_
    refine k_iinc hO dX8_init_135 4 rfl (v := 105) (by decide) (by decide) (lv' := [(5, .int 105), (4, .int 0), (3, .int 0), (2, .int 21), (6, .int 32), (0, .ref h0), (1, .ref p1)]) rfl ?_
    refine k_goto (pc := 138) hO dX8_init_138 (tgt := 64) (by decide) ?_
    refine k_iload hO dX8_init_64 0 rfl ?_
    refine k_ldcS hO rfl dX8_init_66 ?_
    refine k_strlen hO w295 (Nat.le_of_ble_eq_true rfl) (Nat.le_of_ble_eq_true rfl) (Nat.le_of_ble_eq_true rfl) (Nat.le_of_ble_eq_true rfl) (Nat.le_of_ble_eq_true rfl) dX8_init_68 ?_
    refine k_icmp_geF (pc := 71) hO dX8_init_71 (tgt := 141) (by decide) (by decide) ?_
    refine k_ldcS hO rfl dX8_init_74 ?_
    refine k_iload hO dX8_init_76 0 rfl ?_
    refine k_charAt hO (k := 105) (v := 110) (Nat.le_of_ble_eq_true rfl) rfl rfl w305 (Nat.le_of_ble_eq_true rfl) (Nat.le_of_ble_eq_true rfl) (Nat.le_of_ble_eq_true rfl) (Nat.le_of_ble_eq_true rfl) (Nat.le_of_ble_eq_true rfl) dX8_init_78 ?_
    refine k_istore hO dX8_init_81 (by decide) (lv' := [(6, .int 110), (5, .int 105), (4, .int 0), (3, .int 0), (2, .int 21), (0, .ref h0), (1, .ref p1)]) rfl ?_
    refine k_iload hO dX8_init_83 0 rfl ?_
    refine k_bipush hO dX8_init_85 ic_b_32 ?_
    refine k_icmp_eqF (pc := 87) hO dX8_init_87 (tgt := 109) (by decide) (by decide) ?_
    refine k_bipush hO dX8_init_90 ic_b_27 ?_
    refine k_iload_n hO dX8_init_92 3 rfl rfl ?_
    refine k_imul hO dX8_init_93 (v := 0) (by decide) ?_
    refine k_iload hO dX8_init_94 0 rfl ?_
    refine k_iadd hO dX8_init_96 (v := 110) (by decide) ?_
    refine k_bipush hO dX8_init_97 ic_b_97 ?_
    refine k_isub hO dX8_init_99 (v := 13) (by decide) ?_
    refine k_iconst hO dX8_init_100 ic_i_1 ?_
    refine k_iadd hO dX8_init_101 (v := 14) (by decide) ?_
    refine k_istore_n hO dX8_init_102 rfl (by decide) (lv' := [(3, .int 14), (6, .int 110), (5, .int 105), (4, .int 0), (2, .int 21), (0, .ref h0), (1, .ref p1)]) rfl ?_
    refine k_iinc hO dX8_init_103 3 rfl (v := 1) (by decide) (by decide) (lv' := [(4, .int 1), (3, .int 14), (6, .int 110), (5, .int 105), (2, .int 21), (0, .ref h0), (1, .ref p1)]) rfl ?_
    refine k_goto (pc := 106) hO dX8_init_106 (tgt := 135) (by decide) ?_
    refine k_iinc hO dX8_init_135 3 rfl (v := 106) (by decide) (by decide) (lv' := [(5, .int 106), (4, .int 1), (3, .int 14), (6, .int 110), (2, .int 21), (0, .ref h0), (1, .ref p1)]) rfl ?_
    refine k_goto (pc := 138) hO dX8_init_138 (tgt := 64) (by decide) ?_
    refine k_iload hO dX8_init_64 0 rfl ?_
    refine k_ldcS hO rfl dX8_init_66 ?_
    refine k_strlen hO w295 (Nat.le_of_ble_eq_true rfl) (Nat.le_of_ble_eq_true rfl) (Nat.le_of_ble_eq_true rfl) (Nat.le_of_ble_eq_true rfl) (Nat.le_of_ble_eq_true rfl) dX8_init_68 ?_
    refine k_icmp_geF (pc := 71) hO dX8_init_71 (tgt := 141) (by decide) (by decide) ?_
    refine k_ldcS hO rfl dX8_init_74 ?_
    refine k_iload hO dX8_init_76 0 rfl ?_
    refine k_charAt hO (k := 106) (v := 111) (Nat.le_of_ble_eq_true rfl) rfl rfl w305 (Nat.le_of_ble_eq_true rfl) (Nat.le_of_ble_eq_true rfl) (Nat.le_of_ble_eq_true rfl) (Nat.le_of_ble_eq_true rfl) (Nat.le_of_ble_eq_true rfl) dX8_init_78 ?_
    refine k_istore hO dX8_init_81 (by decide) (lv' := [(6, .int 111), (5, .int 106), (4, .int 1), (3, .int 14), (2, .int 21), (0, .ref h0), (1, .ref p1)]) rfl ?_
    refine k_iload hO dX8_init_83 0 rfl ?_
    refine k_bipush hO dX8_init_85 ic_b_32 ?_
    refine k_icmp_eqF (pc := 87) hO dX8_init_87 (tgt := 109) (by decide) (by decide) ?_
    refine k_bipush hO dX8_init_90 ic_b_27 ?_
    refine k_iload_n hO dX8_init_92 3 rfl rfl ?_
    refine k_imul hO dX8_init_93 (v := 378) (by decide) ?_
    refine k_iload hO dX8_init_94 0 rfl ?_
    refine k_iadd hO dX8_init_96 (v := 489) (by decide) ?_
    refine k_bipush hO dX8_init_97 ic_b_97 ?_
    refine k_isub hO dX8_init_99 (v := 392) (by decide) ?_
    refine k_iconst hO dX8_init_100 ic_i_1 ?_
    refine k_iadd hO dX8_init_101 (v := 393) (by decide) ?_
    refine k_istore_n hO dX8_init_102 rfl (by decide) (lv' := [(3, .int 393), (6, .int 111), (5, .int 106), (4, .int 1), (2, .int 21), (0, .ref h0), (1, .ref p1)]) rfl ?_
    refine k_iinc hO dX8_init_103 3 rfl (v := 2) (by decide) (by decide) (lv' := [(4, .int 2), (3, .int 393), (6, .int 111), (5, .int 106), (2, .int 21), (0, .ref h0), (1, .ref p1)]) rfl ?_
    refine k_goto (pc := 106) hO dX8_init_106 (tgt := 135) (by decide) ?_
    refine k_iinc hO dX8_init_135 3 rfl (v := 107) (by decide) (by decide) (lv' := [(5, .int 107), (4, .int 2), (3, .int 393), (6, .int 111), (2, .int 21), (0, .ref h0), (1, .ref p1)]) rfl ?_
    refine k_goto (pc := 138) hO dX8_init_138 (tgt := 64) (by decide) ?_
    refine k_iload hO dX8_init_64 0 rfl ?_
    refine k_ldcS hO rfl dX8_init_66 ?_
    refine k_strlen hO w295 (Nat.le_of_ble_eq_true rfl) (Nat.le_of_ble_eq_true rfl) (Nat.le_of_ble_eq_true rfl) (Nat.le_of_ble_eq_true rfl) (Nat.le_of_ble_eq_true rfl) dX8_init_68 ?_
    refine k_icmp_geF (pc := 71) hO dX8_init_71 (tgt := 141) (by decide) (by decide) ?_
    refine k_ldcS hO rfl dX8_init_74 ?_
    refine k_iload hO dX8_init_76 0 rfl ?_
    refine k_charAt hO (k := 107) (v := 116) (Nat.le_of_ble_eq_true rfl) rfl rfl w305 (Nat.le_of_ble_eq_true rfl) (Nat.le_of_ble_eq_true rfl) (Nat.le_of_ble_eq_true rfl) (Nat.le_of_ble_eq_true rfl) (Nat.le_of_ble_eq_true rfl) dX8_init_78 ?_
    refine k_istore hO dX8_init_81 (by decide) (lv' := [(6, .int 116), (5, .int 107), (4, .int 2), (3, .int 393), (2, .int 21), (0, .ref h0), (1, .ref p1)]) rfl ?_
    refine k_iload hO dX8_init_83 0 rfl ?_
    refine k_bipush hO dX8_init_85 ic_b_32 ?_
    refine k_icmp_eqF (pc := 87) hO dX8_init_87 (tgt := 109) (by decide) (by decide) ?_
    refine k_bipush hO dX8_init_90 ic_b_27 ?_
    refine k_iload_n hO dX8_init_92 3 rfl rfl ?_
    refine k_imul hO dX8_init_93 (v := 10611) (by decide) ?_
    refine k_iload hO dX8_init_94 0 rfl ?_
    refine k_iadd hO dX8_init_96 (v := 10727) (by decide) ?_
    refine k_bipush hO dX8_init_97 ic_b_97 ?_
    refine k_isub hO dX8_init_99 (v := 10630) (by decide) ?_
    refine k_iconst hO dX8_init_100 ic_i_1 ?_
    refine k_iadd hO dX8_init_101 (v := 10631) (by decide) ?_
    refine k_istore_n hO dX8_init_102 rfl (by decide) (lv' := [(3, .int 10631), (6, .int 116), (5, .int 107), (4, .int 2), (2, .int 21), (0, .ref h0), (1, .ref p1)]) rfl ?_
    refine k_iinc hO dX8_init_103 3 rfl (v := 3) (by decide) (by decide) (lv' := [(4, .int 3), (3, .int 10631), (6, .int 116), (5, .int 107), (2, .int 21), (0, .ref h0), (1, .ref p1)]) rfl ?_
    refine k_goto (pc := 106) hO dX8_init_106 (tgt := 135) (by decide) ?_
    refine k_iinc hO dX8_init_135 3 rfl (v := 108) (by decide) (by decide) (lv' := [(5, .int 108), (4, .int 3), (3, .int 10631), (6, .int 116), (2, .int 21), (0, .ref h0), (1, .ref p1)]) rfl ?_
    refine k_goto (pc := 138) hO dX8_init_138 (tgt := 64) (by decide) ?_
    refine k_iload hO dX8_init_64 0 rfl ?_
    refine k_ldcS hO rfl dX8_init_66 ?_
    refine k_strlen hO w295 (Nat.le_of_ble_eq_true rfl) (Nat.le_of_ble_eq_true rfl) (Nat.le_of_ble_eq_true rfl) (Nat.le_of_ble_eq_true rfl) (Nat.le_of_ble_eq_true rfl) dX8_init_68 ?_
    refine k_icmp_geF (pc := 71) hO dX8_init_71 (tgt := 141) (by decide) (by decide) ?_
    refine k_ldcS hO rfl dX8_init_74 ?_
    refine k_iload hO dX8_init_76 0 rfl ?_
    refine k_charAt hO (k := 108) (v := 32) (Nat.le_of_ble_eq_true rfl) rfl rfl w305 (Nat.le_of_ble_eq_true rfl) (Nat.le_of_ble_eq_true rfl) (Nat.le_of_ble_eq_true rfl) (Nat.le_of_ble_eq_true rfl) (Nat.le_of_ble_eq_true rfl) dX8_init_78 ?_
    refine k_istore hO dX8_init_81 (by decide) (lv' := [(6, .int 32), (5, .int 108), (4, .int 3), (3, .int 10631), (2, .int 21), (0, .ref h0), (1, .ref p1)]) rfl ?_
    refine k_iload hO dX8_init_83 0 rfl ?_
    refine k_bipush hO dX8_init_85 ic_b_32 ?_
    refine k_icmp_eqT (pc := 87) hO dX8_init_87 (tgt := 109) (by decide) (by decide) ?_
    refine k_iload_n hO dX8_init_109 4 rfl rfl ?_
    refine k_bipush hO dX8_init_110 ic_b_25 ?_
    refine k_icmp_geF (pc := 112) hO dX8_init_112 (tgt := 135) (by decide) (by decide) ?_
    refine k_aload_n hO dX8_init_115 5 rfl rfl ?_
    refine k_get hO flX8_11 0 rfl (v := .ref q7) rfl dX8_init_116 ?_
    refine k_iload_n hO dX8_init_119 4 rfl rfl ?_
    refine k_iload_n hO dX8_init_120 3 rfl rfl ?_
    refine k_iload hO dX8_init_121 2 rfl ?_
    refine k_fill hO fu_10631_3 w343 (Nat.le_of_ble_eq_true rfl) (Nat.le_of_ble_eq_true rfl) (Nat.le_of_ble_eq_true rfl) (Nat.le_of_ble_eq_true rfl) (Nat.le_of_ble_eq_true rfl) dX8_init_123 ?_
    refine k_iast hO 1 rfl (by decide) (k := 21) (by decide) (ws' := [(h0, .inr (8, [.ref p1, .ref q7, .int 259, .int 0, .int 0, .int 0, .int 0, .int 0, .int (-1)])), (q7, .inl (cy 0, 25, .inl (upd (upd (upd (upd (upd (upd (upd (upd (upd (upd (upd (upd (upd (upd (upd (upd (upd (upd (upd (upd (upd (upd (fun _ => 0) 0 291417210) 1 332864532) 2 173107395) 3 51382989) 4 266274540) 5 294949755) 6 283368645) 7 230359626) 8 115696674) 9 65554785) 10 24977727) 11 123189336) 12 273666600) 13 108693171) 14 230501781) 15 117687573) 16 191610176) 17 78983451) 18 132328809) 19 224799543) 20 21867813) 21 209249973)))]) rfl dX8_init_126 ?_
    refine k_iinc hO dX8_init_127 4 rfl (v := 22) (by decide) (by decide) (lv' := [(2, .int 22), (6, .int 32), (5, .int 108), (4, .int 3), (3, .int 10631), (0, .ref h0), (1, .ref p1)]) rfl ?_
    refine k_iconst hO dX8_init_130 ic_i_0 ?_
    refine k_istore_n hO dX8_init_131 rfl (by decide) (lv' := [(3, .int 0), (2, .int 22), (6, .int 32), (5, .int 108), (4, .int 3), (0, .ref h0), (1, .ref p1)]) rfl ?_
    refine k_iconst hO dX8_init_132 ic_i_0 ?_
    refine k_istore hO dX8_init_133 (by decide) (lv' := [(4, .int 0), (3, .int 0), (2, .int 22), (6, .int 32), (5, .int 108), (0, .ref h0), (1, .ref p1)]) rfl ?_
    refine k_iinc hO dX8_init_135 4 rfl (v := 109) (by decide) (by decide) (lv' := [(5, .int 109), (4, .int 0), (3, .int 0), (2, .int 22), (6, .int 32), (0, .ref h0), (1, .ref p1)]) rfl ?_
    refine k_goto (pc := 138) hO dX8_init_138 (tgt := 64) (by decide) ?_
    refine k_iload hO dX8_init_64 0 rfl ?_
    refine k_ldcS hO rfl dX8_init_66 ?_
    refine k_strlen hO w295 (Nat.le_of_ble_eq_true rfl) (Nat.le_of_ble_eq_true rfl) (Nat.le_of_ble_eq_true rfl) (Nat.le_of_ble_eq_true rfl) (Nat.le_of_ble_eq_true rfl) dX8_init_68 ?_
    refine k_icmp_geF (pc := 71) hO dX8_init_71 (tgt := 141) (by decide) (by decide) ?_
    refine k_ldcS hO rfl dX8_init_74 ?_
    refine k_iload hO dX8_init_76 0 rfl ?_
    refine k_charAt hO (k := 109) (v := 97) (Nat.le_of_ble_eq_true rfl) rfl rfl w305 (Nat.le_of_ble_eq_true rfl) (Nat.le_of_ble_eq_true rfl) (Nat.le_of_ble_eq_true rfl) (Nat.le_of_ble_eq_true rfl) (Nat.le_of_ble_eq_true rfl) dX8_init_78 ?_
    refine k_istore hO dX8_init_81 (by decide) (lv' := [(6, .int 97), (5, .int 109), (4, .int 0), (3, .int 0), (2, .int 22), (0, .ref h0), (1, .ref p1)]) rfl ?_
    refine k_iload hO dX8_init_83 0 rfl ?_
    refine k_bipush hO dX8_init_85 ic_b_32 ?_
    refine k_icmp_eqF (pc := 87) hO dX8_init_87 (tgt := 109) (by decide) (by decide) ?_
    refine k_bipush hO dX8_init_90 ic_b_27 ?_
    refine k_iload_n hO dX8_init_92 3 rfl rfl ?_
    refine k_imul hO dX8_init_93 (v := 0) (by decide) ?_
    refine k_iload hO dX8_init_94 0 rfl ?_
    refine k_iadd hO dX8_init_96 (v := 97) (by decide) ?_
    refine k_bipush hO dX8_init_97 ic_b_97 ?_
    refine k_isub hO dX8_init_99 (v := 0) (by decide) ?_
    refine k_iconst hO dX8_init_100 ic_i_1 ?_
    refine k_iadd hO dX8_init_101 (v := 1) (by decide) ?_
    refine k_istore_n hO dX8_init_102 rfl (by decide) (lv' := [(3, .int 1), (6, .int 97), (5, .int 109), (4, .int 0), (2, .int 22), (0, .ref h0), (1, .ref p1)]) rfl ?_
    refine k_iinc hO dX8_init_103 3 rfl (v := 1) (by decide) (by decide) (lv' := [(4, .int 1), (3, .int 1), (6, .int 97), (5, .int 109), (2, .int 22), (0, .ref h0), (1, .ref p1)]) rfl ?_
    refine k_goto (pc := 106) hO dX8_init_106 (tgt := 135) (by decide) ?_
    refine k_iinc hO dX8_init_135 3 rfl (v := 110) (by decide) (by decide) (lv' := [(5, .int 110), (4, .int 1), (3, .int 1), (6, .int 97), (2, .int 22), (0, .ref h0), (1, .ref p1)]) rfl ?_
    refine k_goto (pc := 138) hO dX8_init_138 (tgt := 64) (by decide) ?_
    refine k_iload hO dX8_init_64 0 rfl ?_
    refine k_ldcS hO rfl dX8_init_66 ?_
    refine k_strlen hO w295 (Nat.le_of_ble_eq_true rfl) (Nat.le_of_ble_eq_true rfl) (Nat.le_of_ble_eq_true rfl) (Nat.le_of_ble_eq_true rfl) (Nat.le_of_ble_eq_true rfl) dX8_init_68 ?_
    refine k_icmp_geF (pc := 71) hO dX8_init_71 (tgt := 141) (by decide) (by decide) ?_
    refine k_ldcS hO rfl dX8_init_74 ?_
    refine k_iload hO dX8_init_76 0 rfl ?_
    refine k_charAt hO (k := 110) (v := 108) (Nat.le_of_ble_eq_true rfl) rfl rfl w305 (Nat.le_of_ble_eq_true rfl) (Nat.le_of_ble_eq_true rfl) (Nat.le_of_ble_eq_true rfl) (Nat.le_of_ble_eq_true rfl) (Nat.le_of_ble_eq_true rfl) dX8_init_78 ?_
    refine k_istore hO dX8_init_81 (by decide) (lv' := [(6, .int 108), (5, .int 110), (4, .int 1), (3, .int 1), (2, .int 22), (0, .ref h0), (1, .ref p1)]) rfl ?_
    refine k_iload hO dX8_init_83 0 rfl ?_
    refine k_bipush hO dX8_init_85 ic_b_32 ?_
    refine k_icmp_eqF (pc := 87) hO dX8_init_87 (tgt := 109) (by decide) (by decide) ?_
    refine k_bipush hO dX8_init_90 ic_b_27 ?_
    refine k_iload_n hO dX8_init_92 3 rfl rfl ?_
    refine k_imul hO dX8_init_93 (v := 27) (by decide) ?_
    refine k_iload hO dX8_init_94 0 rfl ?_
    refine k_iadd hO dX8_init_96 (v := 135) (by decide) ?_
    refine k_bipush hO dX8_init_97 ic_b_97 ?_
    refine k_isub hO dX8_init_99 (v := 38) (by decide) ?_
    refine k_iconst hO dX8_init_100 ic_i_1 ?_
    refine k_iadd hO dX8_init_101 (v := 39) (by decide) ?_
    refine k_istore_n hO dX8_init_102 rfl (by decide) (lv' := [(3, .int 39), (6, .int 108), (5, .int 110), (4, .int 1), (2, .int 22), (0, .ref h0), (1, .ref p1)]) rfl ?_
    refine k_iinc hO dX8_init_103 3 rfl (v := 2) (by decide) (by decide) (lv' := [(4, .int 2), (3, .int 39), (6, .int 108), (5, .int 110), (2, .int 22), (0, .ref h0), (1, .ref p1)]) rfl ?_
    refine k_goto (pc := 106) hO dX8_init_106 (tgt := 135) (by decide) ?_
    refine k_iinc hO dX8_init_135 3 rfl (v := 111) (by decide) (by decide) (lv' := [(5, .int 111), (4, .int 2), (3, .int 39), (6, .int 108), (2, .int 22), (0, .ref h0), (1, .ref p1)]) rfl ?_
    refine k_goto (pc := 138) hO dX8_init_138 (tgt := 64) (by decide) ?_
    refine k_iload hO dX8_init_64 0 rfl ?_
    refine k_ldcS hO rfl dX8_init_66 ?_
    refine k_strlen hO w295 (Nat.le_of_ble_eq_true rfl) (Nat.le_of_ble_eq_true rfl) (Nat.le_of_ble_eq_true rfl) (Nat.le_of_ble_eq_true rfl) (Nat.le_of_ble_eq_true rfl) dX8_init_68 ?_
    refine k_icmp_geF (pc := 71) hO dX8_init_71 (tgt := 141) (by decide) (by decide) ?_
    refine k_ldcS hO rfl dX8_init_74 ?_
    refine k_iload hO dX8_init_76 0 rfl ?_
    refine k_charAt hO (k := 111) (v := 108) (Nat.le_of_ble_eq_true rfl) rfl rfl w305 (Nat.le_of_ble_eq_true rfl) (Nat.le_of_ble_eq_true rfl) (Nat.le_of_ble_eq_true rfl) (Nat.le_of_ble_eq_true rfl) (Nat.le_of_ble_eq_true rfl) dX8_init_78 ?_
    refine k_istore hO dX8_init_81 (by decide) (lv' := [(6, .int 108), (5, .int 111), (4, .int 2), (3, .int 39), (2, .int 22), (0, .ref h0), (1, .ref p1)]) rfl ?_
    refine k_iload hO dX8_init_83 0 rfl ?_
    refine k_bipush hO dX8_init_85 ic_b_32 ?_
    refine k_icmp_eqF (pc := 87) hO dX8_init_87 (tgt := 109) (by decide) (by decide) ?_
    refine k_bipush hO dX8_init_90 ic_b_27 ?_
    refine k_iload_n hO dX8_init_92 3 rfl rfl ?_
    refine k_imul hO dX8_init_93 (v := 1053) (by decide) ?_
    refine k_iload hO dX8_init_94 0 rfl ?_
    refine k_iadd hO dX8_init_96 (v := 1161) (by decide) ?_
    refine k_bipush hO dX8_init_97 ic_b_97 ?_
    refine k_isub hO dX8_init_99 (v := 1064) (by decide) ?_
    refine k_iconst hO dX8_init_100 ic_i_1 ?_
    refine k_iadd hO dX8_init_101 (v := 1065) (by decide) ?_
    refine k_istore_n hO dX8_init_102 rfl (by decide) (lv' := [(3, .int 1065), (6, .int 108), (5, .int 111), (4, .int 2), (2, .int 22), (0, .ref h0), (1, .ref p1)]) rfl ?_
    refine k_iinc hO dX8_init_103 3 rfl (v := 3) (by decide) (by decide) (lv' := [(4, .int 3), (3, .int 1065), (6, .int 108), (5, .int 111), (2, .int 22), (0, .ref h0), (1, .ref p1)]) rfl ?_
    refine k_goto (pc := 106) hO dX8_init_106 (tgt := 135) (by decide) ?_
    refine k_iinc hO dX8_init_135 3 rfl (v := 112) (by decide) (by decide) (lv' := [(5, .int 112), (4, .int 3), (3, .int 1065), (6, .int 108), (2, .int 22), (0, .ref h0), (1, .ref p1)]) rfl ?_
    refine k_goto (pc := 138) hO dX8_init_138 (tgt := 64) (by decide) ?_
    refine k_iload hO dX8_init_64 0 rfl ?_
    refine k_ldcS hO rfl dX8_init_66 ?_
    refine k_strlen hO w295 (Nat.le_of_ble_eq_true rfl) (Nat.le_of_ble_eq_true rfl) (Nat.le_of_ble_eq_true rfl) (Nat.le_of_ble_eq_true rfl) (Nat.le_of_ble_eq_true rfl) dX8_init_68 ?_
    refine k_icmp_geF (pc := 71) hO dX8_init_71 (tgt := 141) (by decide) (by decide) ?_
    refine k_ldcS hO rfl dX8_init_74 ?_
    refine k_iload hO dX8_init_76 0 rfl ?_
    refine k_charAt hO (k := 112) (v := 32) (Nat.le_of_ble_eq_true rfl) rfl rfl w305 (Nat.le_of_ble_eq_true rfl) (Nat.le_of_ble_eq_true rfl) (Nat.le_of_ble_eq_true rfl) (Nat.le_of_ble_eq_true rfl) (Nat.le_of_ble_eq_true rfl) dX8_init_78 ?_
    refine k_istore hO dX8_init_81 (by decide) (lv' := [(6, .int 32), (5, .int 112), (4, .int 3), (3, .int 1065), (2, .int 22), (0, .ref h0), (1, .ref p1)]) rfl ?_
    refine k_iload hO dX8_init_83 0 rfl ?_
    refine k_bipush hO dX8_init_85 ic_b_32 ?_
    refine k_icmp_eqT (pc := 87) hO dX8_init_87 (tgt := 109) (by decide) (by decide) ?_
    refine k_iload_n hO dX8_init_109 4 rfl rfl ?_
    refine k_bipush hO dX8_init_110 ic_b_25 ?_
    refine k_icmp_geF (pc := 112) hO dX8_init_112 (tgt := 135) (by decide) (by decide) ?_
    refine k_aload_n hO dX8_init_115 5 rfl rfl ?_
    refine k_get hO flX8_11 0 rfl (v := .ref q7) rfl dX8_init_116 ?_
    refine k_iload_n hO dX8_init_119 4 rfl rfl ?_
    refine k_iload_n hO dX8_init_120 3 rfl rfl ?_
    refine k_iload hO dX8_init_121 2 rfl ?_
    refine k_fill hO fu_1065_3 w343 (Nat.le_of_ble_eq_true rfl) (Nat.le_of_ble_eq_true rfl) (Nat.le_of_ble_eq_true rfl) (Nat.le_of_ble_eq_true rfl) (Nat.le_of_ble_eq_true rfl) dX8_init_123 ?_
    refine k_iast hO 1 rfl (by decide) (k := 22) (by decide) (ws' := [(h0, .inr (8, [.ref p1, .ref q7, .int 259, .int 0, .int 0, .int 0, .int 0, .int 0, .int (-1)])), (q7, .inl (cy 0, 25, .inl (upd (upd (upd (upd (upd (upd (upd (upd (upd (upd (upd (upd (upd (upd (upd (upd (upd (upd (upd (upd (upd (upd (upd (fun _ => 0) 0 291417210) 1 332864532) 2 173107395) 3 51382989) 4 266274540) 5 294949755) 6 283368645) 7 230359626) 8 115696674) 9 65554785) 10 24977727) 11 123189336) 12 273666600) 13 108693171) 14 230501781) 15 117687573) 16 191610176) 17 78983451) 18 132328809) 19 224799543) 20 21867813) 21 209249973) 22 20962395)))]) rfl dX8_init_126 ?_
    refine k_iinc hO dX8_init_127 4 rfl (v := 23) (by decide) (by decide) (lv' := [(2, .int 23), (6, .int 32), (5, .int 112), (4, .int 3), (3, .int 1065), (0, .ref h0), (1, .ref p1)]) rfl ?_
    refine k_iconst hO dX8_init_130 ic_i_0 ?_
    refine k_istore_n hO dX8_init_131 rfl (by decide) (lv' := [(3, .int 0), (2, .int 23), (6, .int 32), (5, .int 112), (4, .int 3), (0, .ref h0), (1, .ref p1)]) rfl ?_
    refine k_iconst hO dX8_init_132 ic_i_0 ?_
    refine k_istore hO dX8_init_133 (by decide) (lv' := [(4, .int 0), (3, .int 0), (2, .int 23), (6, .int 32), (5, .int 112), (0, .ref h0), (1, .ref p1)]) rfl ?_
    refine k_iinc hO dX8_init_135 4 rfl (v := 113) (by decide) (by decide) (lv' := [(5, .int 113), (4, .int 0), (3, .int 0), (2, .int 23), (6, .int 32), (0, .ref h0), (1, .ref p1)]) rfl ?_
    refine k_goto (pc := 138) hO dX8_init_138 (tgt := 64) (by decide) ?_
    refine k_iload hO dX8_init_64 0 rfl ?_
    refine k_ldcS hO rfl dX8_init_66 ?_
    refine k_strlen hO w295 (Nat.le_of_ble_eq_true rfl) (Nat.le_of_ble_eq_true rfl) (Nat.le_of_ble_eq_true rfl) (Nat.le_of_ble_eq_true rfl) (Nat.le_of_ble_eq_true rfl) dX8_init_68 ?_
    refine k_icmp_geF (pc := 71) hO dX8_init_71 (tgt := 141) (by decide) (by decide) ?_
    refine k_ldcS hO rfl dX8_init_74 ?_
    refine k_iload hO dX8_init_76 0 rfl ?_
    refine k_charAt hO (k := 113) (v := 109) (Nat.le_of_ble_eq_true rfl) rfl rfl w305 (Nat.le_of_ble_eq_true rfl) (Nat.le_of_ble_eq_true rfl) (Nat.le_of_ble_eq_true rfl) (Nat.le_of_ble_eq_true rfl) (Nat.le_of_ble_eq_true rfl) dX8_init_78 ?_
    refine k_istore hO dX8_init_81 (by decide) (lv' := [(6, .int 109), (5, .int 113), (4, .int 0), (3, .int 0), (2, .int 23), (0, .ref h0), (1, .ref p1)]) rfl ?_
    refine k_iload hO dX8_init_83 0 rfl ?_
    refine k_bipush hO dX8_init_85 ic_b_32 ?_
    refine k_icmp_eqF (pc := 87) hO dX8_init_87 (tgt := 109) (by decide) (by decide) ?_
    refine k_bipush hO dX8_init_90 ic_b_27 ?_
    refine k_iload_n hO dX8_init_92 3 rfl rfl ?_
    refine k_imul hO dX8_init_93 (v := 0) (by decide) ?_
    refine k_iload hO dX8_init_94 0 rfl ?_
    refine k_iadd hO dX8_init_96 (v := 109) (by decide) ?_
    refine k_bipush hO dX8_init_97 ic_b_97 ?_
    refine k_isub hO dX8_init_99 (v := 12) (by decide) ?_
    refine k_iconst hO dX8_init_100 ic_i_1 ?_
    refine k_iadd hO dX8_init_101 (v := 13) (by decide) ?_
    refine k_istore_n hO dX8_init_102 rfl (by decide) (lv' := [(3, .int 13), (6, .int 109), (5, .int 113), (4, .int 0), (2, .int 23), (0, .ref h0), (1, .ref p1)]) rfl ?_
    refine k_iinc hO dX8_init_103 3 rfl (v := 1) (by decide) (by decide) (lv' := [(4, .int 1), (3, .int 13), (6, .int 109), (5, .int 113), (2, .int 23), (0, .ref h0), (1, .ref p1)]) rfl ?_
    refine k_goto (pc := 106) hO dX8_init_106 (tgt := 135) (by decide) ?_
    refine k_iinc hO dX8_init_135 3 rfl (v := 114) (by decide) (by decide) (lv' := [(5, .int 114), (4, .int 1), (3, .int 13), (6, .int 109), (2, .int 23), (0, .ref h0), (1, .ref p1)]) rfl ?_
    refine k_goto (pc := 138) hO dX8_init_138 (tgt := 64) (by decide) ?_
    refine k_iload hO dX8_init_64 0 rfl ?_
    refine k_ldcS hO rfl dX8_init_66 ?_
    refine k_strlen hO w295 (Nat.le_of_ble_eq_true rfl) (Nat.le_of_ble_eq_true rfl) (Nat.le_of_ble_eq_true rfl) (Nat.le_of_ble_eq_true rfl) (Nat.le_of_ble_eq_true rfl) dX8_init_68 ?_
    refine k_icmp_geF (pc := 71) hO dX8_init_71 (tgt := 141) (by decide) (by decide) ?_
    refine k_ldcS hO rfl dX8_init_74 ?_
    refine k_iload hO dX8_init_76 0 rfl ?_
    refine k_charAt hO (k := 114) (v := 105) (Nat.le_of_ble_eq_true rfl) rfl rfl w305 (Nat.le_of_ble_eq_true rfl) (Nat.le_of_ble_eq_true rfl) (Nat.le_of_ble_eq_true rfl) (Nat.le_of_ble_eq_true rfl) (Nat.le_of_ble_eq_true rfl) dX8_init_78 ?_
    refine k_istore hO dX8_init_81 (by decide) (lv' := [(6, .int 105), (5, .int 114), (4, .int 1), (3, .int 13), (2, .int 23), (0, .ref h0), (1, .ref p1)]) rfl ?_
    refine k_iload hO dX8_init_83 0 rfl ?_
    refine k_bipush hO dX8_init_85 ic_b_32 ?_
    refine k_icmp_eqF (pc := 87) hO dX8_init_87 (tgt := 109) (by decide) (by decide) ?_
    refine k_bipush hO dX8_init_90 ic_b_27 ?_
    refine k_iload_n hO dX8_init_92 3 rfl rfl ?_
    refine k_imul hO dX8_init_93 (v := 351) (by decide) ?_
    refine k_iload hO dX8_init_94 0 rfl ?_
    refine k_iadd hO dX8_init_96 (v := 456) (by decide) ?_
    refine k_bipush hO dX8_init_97 ic_b_97 ?_
    refine k_isub hO dX8_init_99 (v := 359) (by decide) ?_
    refine k_iconst hO dX8_init_100 ic_i_1 ?_
    refine k_iadd hO dX8_init_101 (v := 360) (by decide) ?_
    refine k_istore_n hO dX8_init_102 rfl (by decide) (lv' := [(3, .int 360), (6, .int 105), (5, .int 114), (4, .int 1), (2, .int 23), (0, .ref h0), (1, .ref p1)]) rfl ?_
    refine k_iinc hO dX8_init_103 3 rfl (v := 2) (by decide) (by decide) (lv' := [(4, .int 2), (3, .int 360), (6, .int 105), (5, .int 114), (2, .int 23), (0, .ref h0), (1, .ref p1)]) rfl ?_
    refine k_goto (pc := 106) hO dX8_init_106 (tgt := 135) (by decide) ?_
    refine k_iinc hO dX8_init_135 3 rfl (v := 115) (by decide) (by decide) (lv' := [(5, .int 115), (4, .int 2), (3, .int 360), (6, .int 105), (2, .int 23), (0, .ref h0), (1, .ref p1)]) rfl ?_
    refine k_goto (pc := 138) hO dX8_init_138 (tgt := 64) (by decide) ?_
    refine k_iload hO dX8_init_64 0 rfl ?_
    refine k_ldcS hO rfl dX8_init_66 ?_
    refine k_strlen hO w295 (Nat.le_of_ble_eq_true rfl) (Nat.le_of_ble_eq_true rfl) (Nat.le_of_ble_eq_true rfl) (Nat.le_of_ble_eq_true rfl) (Nat.le_of_ble_eq_true rfl) dX8_init_68 ?_
    refine k_icmp_geF (pc := 71) hO dX8_init_71 (tgt := 141) (by decide) (by decide) ?_
    refine k_ldcS hO rfl dX8_init_74 ?_
    refine k_iload hO dX8_init_76 0 rfl ?_
    refine k_charAt hO (k := 115) (v := 110) (Nat.le_of_ble_eq_true rfl) rfl rfl w305 (Nat.le_of_ble_eq_true rfl) (Nat.le_of_ble_eq_true rfl) (Nat.le_of_ble_eq_true rfl) (Nat.le_of_ble_eq_true rfl) (Nat.le_of_ble_eq_true rfl) dX8_init_78 ?_
    refine k_istore hO dX8_init_81 (by decide) (lv' := [(6, .int 110), (5, .int 115), (4, .int 2), (3, .int 360), (2, .int 23), (0, .ref h0), (1, .ref p1)]) rfl ?_
    refine k_iload hO dX8_init_83 0 rfl ?_
    refine k_bipush hO dX8_init_85 ic_b_32 ?_
    refine k_icmp_eqF (pc := 87) hO dX8_init_87 (tgt := 109) (by decide) (by decide) ?_
    refine k_bipush hO dX8_init_90 ic_b_27 ?_
    refine k_iload_n hO dX8_init_92 3 rfl rfl ?_
    refine k_imul hO dX8_init_93 (v := 9720) (by decide) ?_
    refine k_iload hO dX8_init_94 0 rfl ?_
    refine k_iadd hO dX8_init_96 (v := 9830) (by decide) ?_
    refine k_bipush hO dX8_init_97 ic_b_97 ?_
    refine k_isub hO dX8_init_99 (v := 9733) (by decide) ?_
    refine k_iconst hO dX8_init_100 ic_i_1 ?_
    refine k_iadd hO dX8_init_101 (v := 9734) (by decide) ?_
    refine k_istore_n hO dX8_init_102 rfl (by decide) (lv' := [(3, .int 9734), (6, .int 110), (5, .int 115), (4, .int 2), (2, .int 23), (0, .ref h0), (1, .ref p1)]) rfl ?_
    refine k_iinc hO dX8_init_103 3 rfl (v := 3) (by decide) (by decide) (lv' := [(4, .int 3), (3, .int 9734), (6, .int 110), (5, .int 115), (2, .int 23), (0, .ref h0), (1, .ref p1)]) rfl ?_
    refine k_goto (pc := 106) hO dX8_init_106 (tgt := 135) (by decide) ?_
    refine k_iinc hO dX8_init_135 3 rfl (v := 116) (by decide) (by decide) (lv' := [(5, .int 116), (4, .int 3), (3, .int 9734), (6, .int 110), (2, .int 23), (0, .ref h0), (1, .ref p1)]) rfl ?_
    refine k_goto (pc := 138) hO dX8_init_138 (tgt := 64) (by decide) ?_
    refine k_iload hO dX8_init_64 0 rfl ?_
    refine k_ldcS hO rfl dX8_init_66 ?_
    refine k_strlen hO w295 (Nat.le_of_ble_eq_true rfl) (Nat.le_of_ble_eq_true rfl) (Nat.le_of_ble_eq_true rfl) (Nat.le_of_ble_eq_true rfl) (Nat.le_of_ble_eq_true rfl) dX8_init_68 ?_
    refine k_icmp_geF (pc := 71) hO dX8_init_71 (tgt := 141) (by decide) (by decide) ?_
    refine k_ldcS hO rfl dX8_init_74 ?_
    refine k_iload hO dX8_init_76 0 rfl ?_
    refine k_charAt hO (k := 116) (v := 32) (Nat.le_of_ble_eq_true rfl) rfl rfl w305 (Nat.le_of_ble_eq_true rfl) (Nat.le_of_ble_eq_true rfl) (Nat.le_of_ble_eq_true rfl) (Nat.le_of_ble_eq_true rfl) (Nat.le_of_ble_eq_true rfl) dX8_init_78 ?_
    refine k_istore hO dX8_init_81 (by decide) (lv' := [(6, .int 32), (5, .int 116), (4, .int 3), (3, .int 9734), (2, .int 23), (0, .ref h0), (1, .ref p1)]) rfl ?_
    refine k_iload hO dX8_init_83 0 rfl ?_
    refine k_bipush hO dX8_init_85 ic_b_32 ?_
    refine k_icmp_eqT (pc := 87) hO dX8_init_87 (tgt := 109) (by decide) (by decide) ?_
    refine k_iload_n hO dX8_init_109 4 rfl rfl ?_
    refine k_bipush hO dX8_init_110 ic_b_25 ?_
    refine k_icmp_geF (pc := 112) hO dX8_init_112 (tgt := 135) (by decide) (by decide) ?_
    refine k_aload_n hO dX8_init_115 5 rfl rfl ?_
    refine k_get hO flX8_11 0 rfl (v := .ref q7) rfl dX8_init_116 ?_
    refine k_iload_n hO dX8_init_119 4 rfl rfl ?_
    refine k_iload_n hO dX8_init_120 3 rfl rfl ?_
    refine k_iload hO dX8_init_121 2 rfl ?_
    refine k_fill hO fu_9734_3 w343 (Nat.le_of_ble_eq_true rfl) (Nat.le_of_ble_eq_true rfl) (Nat.le_of_ble_eq_true rfl) (Nat.le_of_ble_eq_true rfl) (Nat.le_of_ble_eq_true rfl) dX8_init_123 ?_
    refine k_iast hO 1 rfl (by decide) (k := 23) (by decide) (ws' := [(h0, .inr (8, [.ref p1, .ref q7, .int 259, .int 0, .int 0, .int 0, .int 0, .int 0, .int (-1)])), (q7, .inl (cy 0, 25, .inl (upd (upd (upd (upd (upd (upd (upd (upd (upd (upd (upd (upd (upd (upd (upd (upd (upd (upd (upd (upd (upd (upd (upd (upd (fun _ => 0) 0 291417210) 1 332864532) 2 173107395) 3 51382989) 4 266274540) 5 294949755) 6 283368645) 7 230359626) 8 115696674) 9 65554785) 10 24977727) 11 123189336) 12 273666600) 13 108693171) 14 230501781) 15 117687573) 16 191610176) 17 78983451) 18 132328809) 19 224799543) 20 21867813) 21 209249973) 22 20962395) 23 191594322)))]) rfl dX8_init_126 ?_
    refine k_iinc hO dX8_init_127 4 rfl (v := 24) (by decide) (by decide) (lv' := [(2, .int 24), (6, .int 32), (5, .int 116), (4, .int 3), (3, .int 9734), (0, .ref h0), (1, .ref p1)]) rfl ?_
    refine k_iconst hO dX8_init_130 ic_i_0 ?_
    refine k_istore_n hO dX8_init_131 rfl (by decide) (lv' := [(3, .int 0), (2, .int 24), (6, .int 32), (5, .int 116), (4, .int 3), (0, .ref h0), (1, .ref p1)]) rfl ?_
    refine k_iconst hO dX8_init_132 ic_i_0 ?_
    refine k_istore hO dX8_init_133 (by decide) (lv' := [(4, .int 0), (3, .int 0), (2, .int 24), (6, .int 32), (5, .int 116), (0, .ref h0), (1, .ref p1)]) rfl ?_
    refine k_iinc hO dX8_init_135 4 rfl (v := 117) (by decide) (by decide) (lv' := [(5, .int 117), (4, .int 0), (3, .int 0), (2, .int 24), (6, .int 32), (0, .ref h0), (1, .ref p1)]) rfl ?_
    refine k_goto (pc := 138) hO dX8_init_138 (tgt := 64) (by decide) ?_
    refine k_iload hO dX8_init_64 0 rfl ?_
    refine k_ldcS hO rfl dX8_init_66 ?_
    refine k_strlen hO w295 (Nat.le_of_ble_eq_true rfl) (Nat.le_of_ble_eq_true rfl) (Nat.le_of_ble_eq_true rfl) (Nat.le_of_ble_eq_true rfl) (Nat.le_of_ble_eq_true rfl) dX8_init_68 ?_
    refine k_icmp_geF (pc := 71) hO dX8_init_71 (tgt := 141) (by decide) (by decide) ?_
    refine k_ldcS hO rfl dX8_init_74 ?_
    refine k_iload hO dX8_init_76 0 rfl ?_
    refine k_charAt hO (k := 117) (v := 109) (Nat.le_of_ble_eq_true rfl) rfl rfl w305 (Nat.le_of_ble_eq_true rfl) (Nat.le_of_ble_eq_true rfl) (Nat.le_of_ble_eq_true rfl) (Nat.le_of_ble_eq_true rfl) (Nat.le_of_ble_eq_true rfl) dX8_init_78 ?_
    refine k_istore hO dX8_init_81 (by decide) (lv' := [(6, .int 109), (5, .int 117), (4, .int 0), (3, .int 0), (2, .int 24), (0, .ref h0), (1, .ref p1)]) rfl ?_
    refine k_iload hO dX8_init_83 0 rfl ?_
    refine k_bipush hO dX8_init_85 ic_b_32 ?_
    refine k_icmp_eqF (pc := 87) hO dX8_init_87 (tgt := 109) (by decide) (by decide) ?_
    refine k_bipush hO dX8_init_90 ic_b_27 ?_
    refine k_iload_n hO dX8_init_92 3 rfl rfl ?_
    refine k_imul hO dX8_init_93 (v := 0) (by decide) ?_
    refine k_iload hO dX8_init_94 0 rfl ?_
    refine k_iadd hO dX8_init_96 (v := 109) (by decide) ?_
    refine k_bipush hO dX8_init_97 ic_b_97 ?_
    refine k_isub hO dX8_init_99 (v := 12) (by decide) ?_
    refine k_iconst hO dX8_init_100 ic_i_1 ?_
    refine k_iadd hO dX8_init_101 (v := 13) (by decide) ?_
    refine k_istore_n hO dX8_init_102 rfl (by decide) (lv' := [(3, .int 13), (6, .int 109), (5, .int 117), (4, .int 0), (2, .int 24), (0, .ref h0), (1, .ref p1)]) rfl ?_
    refine k_iinc hO dX8_init_103 3 rfl (v := 1) (by decide) (by decide) (lv' := [(4, .int 1), (3, .int 13), (6, .int 109), (5, .int 117), (2, .int 24), (0, .ref h0), (1, .ref p1)]) rfl ?_
    refine k_goto (pc := 106) hO dX8_init_106 (tgt := 135) (by decide) ?_
    refine k_iinc hO dX8_init_135 3 rfl (v := 118) (by decide) (by decide) (lv' := [(5, .int 118), (4, .int 1), (3, .int 13), (6, .int 109), (2, .int 24), (0, .ref h0), (1, .ref p1)]) rfl ?_
    refine k_goto (pc := 138) hO dX8_init_138 (tgt := 64) (by decide) ?_
    refine k_iload hO dX8_init_64 0 rfl ?_
    refine k_ldcS hO rfl dX8_init_66 ?_
    refine k_strlen hO w295 (Nat.le_of_ble_eq_true rfl) (Nat.le_of_ble_eq_true rfl) (Nat.le_of_ble_eq_true rfl) (Nat.le_of_ble_eq_true rfl) (Nat.le_of_ble_eq_true rfl) dX8_init_68 ?_
    refine k_icmp_geF (pc := 71) hO dX8_init_71 (tgt := 141) (by decide) (by decide) ?_
    refine k_ldcS hO rfl dX8_init_74 ?_
    refine k_iload hO dX8_init_76 0 rfl ?_
    refine k_charAt hO (k := 118) (v := 97) (Nat.le_of_ble_eq_true rfl) rfl rfl w305 (Nat.le_of_ble_eq_true rfl) (Nat.le_of_ble_eq_true rfl) (Nat.le_of_ble_eq_true rfl) (Nat.le_of_ble_eq_true rfl) (Nat.le_of_ble_eq_true rfl) dX8_init_78 ?_
    refine k_istore hO dX8_init_81 (by decide) (lv' := [(6, .int 97), (5, .int 118), (4, .int 1), (3, .int 13), (2, .int 24), (0, .ref h0), (1, .ref p1)]) rfl ?_
    refine k_iload hO dX8_init_83 0 rfl ?_
    refine k_bipush hO dX8_init_85 ic_b_32 ?_
    refine k_icmp_eqF (pc := 87) hO dX8_init_87 (tgt := 109) (by decide) (by decide) ?_
    refine k_bipush hO dX8_init_90 ic_b_27 ?_
    refine k_iload_n hO dX8_init_92 3 rfl rfl ?_
    refine k_imul hO dX8_init_93 (v := 351) (by decide) ?_
    refine k_iload hO dX8_init_94 0 rfl ?_
    refine k_iadd hO dX8_init_96 (v := 448) (by decide) ?_
    refine k_bipush hO dX8_init_97 ic_b_97 ?_
    refine k_isub hO dX8_init_99 (v := 351) (by decide) ?_
    refine k_iconst hO dX8_init_100 ic_i_1 ?_
    refine k_iadd hO dX8_init_101 (v := 352) (by decide) ?_
    refine k_istore_n hO dX8_init_102 rfl (by decide) (lv' := [(3, .int 352), (6, .int 97), (5, .int 118), (4, .int 1), (2, .int 24), (0, .ref h0), (1, .ref p1)]) rfl ?_
    refine k_iinc hO dX8_init_103 3 rfl (v := 2) (by decide) (by decide) (lv' := [(4, .int 2), (3, .int 352), (6, .int 97), (5, .int 118), (2, .int 24), (0, .ref h0), (1, .ref p1)]) rfl ?_
    refine k_goto (pc := 106) hO dX8_init_106 (tgt := 135) (by decide) ?_
    refine k_iinc hO dX8_init_135 3 rfl (v := 119) (by decide) (by decide) (lv' := [(5, .int 119), (4, .int 2), (3, .int 352), (6, .int 97), (2, .int 24), (0, .ref h0), (1, .ref p1)]) rfl ?_
    refine k_goto (pc := 138) hO dX8_init_138 (tgt := 64) (by decide) ?_
    refine k_iload hO dX8_init_64 0 rfl ?_
    refine k_ldcS hO rfl dX8_init_66 ?_
    refine k_strlen hO w295 (Nat.le_of_ble_eq_true rfl) (Nat.le_of_ble_eq_true rfl) (Nat.le_of_ble_eq_true rfl) (Nat.le_of_ble_eq_true rfl) (Nat.le_of_ble_eq_true rfl) dX8_init_68 ?_
    refine k_icmp_geF (pc := 71) hO dX8_init_71 (tgt := 141) (by decide) (by decide) ?_
    refine k_ldcS hO rfl dX8_init_74 ?_
    refine k_iload hO dX8_init_76 0 rfl ?_
    refine k_charAt hO (k := 119) (v := 120) (Nat.le_of_ble_eq_true rfl) rfl rfl w305 (Nat.le_of_ble_eq_true rfl) (Nat.le_of_ble_eq_true rfl) (Nat.le_of_ble_eq_true rfl) (Nat.le_of_ble_eq_true rfl) (Nat.le_of_ble_eq_true rfl) dX8_init_78 ?_
    refine k_istore hO dX8_init_81 (by decide) (lv' := [(6, .int 120), (5, .int 119), (4, .int 2), (3, .int 352), (2, .int 24), (0, .ref h0), (1, .ref p1)]) rfl ?_
    refine k_iload hO dX8_init_83 0 rfl ?_
    refine k_bipush hO dX8_init_85 ic_b_32 ?_
    refine k_icmp_eqF (pc := 87) hO dX8_init_87 (tgt := 109) (by decide) (by decide) ?_
    refine k_bipush hO dX8_init_90 ic_b_27 ?_
    refine k_iload_n hO dX8_init_92 3 rfl rfl ?_
    refine k_imul hO dX8_init_93 (v := 9504) (by decide) ?_
    refine k_iload hO dX8_init_94 0 rfl ?_
    refine k_iadd hO dX8_init_96 (v := 9624) (by decide) ?_
    refine k_bipush hO dX8_init_97 ic_b_97 ?_
    refine k_isub hO dX8_init_99 (v := 9527) (by decide) ?_
    refine k_iconst hO dX8_init_100 ic_i_1 ?_
    refine k_iadd hO dX8_init_101 (v := 9528) (by decide) ?_
    refine k_istore_n hO dX8_init_102 rfl (by decide) (lv' := [(3, .int 9528), (6, .int 120), (5, .int 119), (4, .int 2), (2, .int 24), (0, .ref h0), (1, .ref p1)]) rfl ?_
    refine k_iinc hO dX8_init_103 3 rfl (v := 3) (by decide) (by decide) (lv' := [(4, .int 3), (3, .int 9528), (6, .int 120), (5, .int 119), (2, .int 24), (0, .ref h0), (1, .ref p1)]) rfl ?_
    refine k_goto (pc := 106) hO dX8_init_106 (tgt := 135) (by decide) ?_
    refine k_iinc hO dX8_init_135 3 rfl (v := 120) (by decide) (by decide) (lv' := [(5, .int 120), (4, .int 3), (3, .int 9528), (6, .int 120), (2, .int 24), (0, .ref h0), (1, .ref p1)]) rfl ?_
    refine k_goto (pc := 138) hO dX8_init_138 (tgt := 64) (by decide) ?_
    refine k_iload hO dX8_init_64 0 rfl ?_
    refine k_ldcS hO rfl dX8_init_66 ?_
    refine k_strlen hO w295 (Nat.le_of_ble_eq_true rfl) (Nat.le_of_ble_eq_true rfl) (Nat.le_of_ble_eq_true rfl) (Nat.le_of_ble_eq_true rfl) (Nat.le_of_ble_eq_true rfl) dX8_init_68 ?_
    refine k_icmp_geF (pc := 71) hO dX8_init_71 (tgt := 141) (by decide) (by decide) ?_
    refine k_ldcS hO rfl dX8_init_74 ?_
    refine k_iload hO dX8_init_76 0 rfl ?_
    refine k_charAt hO (k := 120) (v := 32) (Nat.le_of_ble_eq_true rfl) rfl rfl w305 (Nat.le_of_ble_eq_true rfl) (Nat.le_of_ble_eq_true rfl) (Nat.le_of_ble_eq_true rfl) (Nat.le_of_ble_eq_true rfl) (Nat.le_of_ble_eq_true rfl) dX8_init_78 ?_
    refine k_istore hO dX8_init_81 (by decide) (lv' := [(6, .int 32), (5, .int 120), (4, .int 3), (3, .int 9528), (2, .int 24), (0, .ref h0), (1, .ref p1)]) rfl ?_
    refine k_iload hO dX8_init_83 0 rfl ?_
    refine k_bipush hO dX8_init_85 ic_b_32 ?_
    refine k_icmp_eqT (pc := 87) hO dX8_init_87 (tgt := 109) (by decide) (by decide) ?_
    refine k_iload_n hO dX8_init_109 4 rfl rfl ?_
    refine k_bipush hO dX8_init_110 ic_b_25 ?_
    refine k_icmp_geF (pc := 112) hO dX8_init_112 (tgt := 135) (by decide) (by decide) ?_
    refine k_aload_n hO dX8_init_115 5 rfl rfl ?_
    refine k_get hO flX8_11 0 rfl (v := .ref q7) rfl dX8_init_116 ?_
    refine k_iload_n hO dX8_init_119 4 rfl rfl ?_
    refine k_iload_n hO dX8_init_120 3 rfl rfl ?_
    refine k_iload hO dX8_init_121 2 rfl ?_
    refine k_fill hO fu_9528_3 w343 (Nat.le_of_ble_eq_true rfl) (Nat.le_of_ble_eq_true rfl) (Nat.le_of_ble_eq_true rfl) (Nat.le_of_ble_eq_true rfl) (Nat.le_of_ble_eq_true rfl) dX8_init_123 ?_
    refine k_iast hO 1 rfl (by decide) (k := 24) (by decide) (ws' := [(h0, .inr (8, [.ref p1, .ref q7, .int 259, .int 0, .int 0, .int 0, .int 0, .int 0, .int (-1)])), (q7, .inl (cy 0, 25, .inl (upd (upd (upd (upd (upd (upd (upd (upd (upd (upd (upd (upd (upd (upd (upd (upd (upd (upd (upd (upd (upd (upd (upd (upd (upd (fun _ => 0) 0 291417210) 1 332864532) 2 173107395) 3 51382989) 4 266274540) 5 294949755) 6 283368645) 7 230359626) 8 115696674) 9 65554785) 10 24977727) 11 123189336) 12 273666600) 13 108693171) 14 230501781) 15 117687573) 16 191610176) 17 78983451) 18 132328809) 19 224799543) 20 21867813) 21 209249973) 22 20962395) 23 191594322) 24 187539624)))]) rfl dX8_init_126 ?_
    refine k_iinc hO dX8_init_127 4 rfl (v := 25) (by decide) (by decide) (lv' := [(2, .int 25), (6, .int 32), (5, .int 120), (4, .int 3), (3, .int 9528), (0, .ref h0), (1, .ref p1)]) rfl ?_
    refine k_iconst hO dX8_init_130 ic_i_0 ?_
    refine k_istore_n hO dX8_init_131 rfl (by decide) (lv' := [(3, .int 0), (2, .int 25), (6, .int 32), (5, .int 120), (4, .int 3), (0, .ref h0), (1, .ref p1)]) rfl ?_
    refine k_iconst hO dX8_init_132 ic_i_0 ?_
    refine k_istore hO dX8_init_133 (by decide) (lv' := [(4, .int 0), (3, .int 0), (2, .int 25), (6, .int 32), (5, .int 120), (0, .ref h0), (1, .ref p1)]) rfl ?_
    refine k_iinc hO dX8_init_135 4 rfl (v := 121) (by decide) (by decide) (lv' := [(5, .int 121), (4, .int 0), (3, .int 0), (2, .int 25), (6, .int 32), (0, .ref h0), (1, .ref p1)]) rfl ?_
    refine k_goto (pc := 138) hO dX8_init_138 (tgt := 64) (by decide) ?_
    refine k_iload hO dX8_init_64 0 rfl ?_
    refine k_ldcS hO rfl dX8_init_66 ?_
    refine k_strlen hO w295 (Nat.le_of_ble_eq_true rfl) (Nat.le_of_ble_eq_true rfl) (Nat.le_of_ble_eq_true rfl) (Nat.le_of_ble_eq_true rfl) (Nat.le_of_ble_eq_true rfl) dX8_init_68 ?_
    refine k_icmp_geT (pc := 71) hO dX8_init_71 (tgt := 141) (by decide) (by decide) ?_
    exact k_ret hO (fun i => [q7].getD i 0) [0, 1] rfl rfl rfl dX8_init_141)
theorem ccX4_init (h0 p1 p2 p3 p4 p5 p6 p7 p8 p9 p10 p11 p12 p13 p14 p15 : Nat) : CC l D cy B0 ka va yX4_init cX4_init 3 ({ frames := 5, cells := 3, slots := 37, locals := 136 }) [.ref h0, .ref p1, .ref p2] [(h0, .inr (4, [.null, .null, .null])), (p2, .inr (9, [.int 0, .int 0, .ref p3, .ref p4, .ref p5, .int 0, .ref p6, .ref p7, .int 0, .ref p8, .ref p9, .ref p10, .int 0, .ref p11, .ref p12, .ref p13, .int 0, .ref p14, .ref p15]))] (fun u => [(h0, .inr (4, [.ref (u 0), .ref (u 2), .ref p2])), (p2, .inr (9, [.int 0, .int 0, .ref p3, .ref p4, .ref p5, .int 0, .ref p6, .ref p7, .int 0, .ref p8, .ref p9, .ref p10, .int 0, .ref p11, .ref p12, .ref p13, .int 0, .ref p14, .ref p15])), ((u 0), .inr (8, [.ref p1, .ref (u 1), .int 259, .int 0, .int 0, .int 0, .int 0, .int 0, .int (-1)])), ((u 1), .inl (cy 0, 25, .inl (upd (upd (upd (upd (upd (upd (upd (upd (upd (upd (upd (upd (upd (upd (upd (upd (upd (upd (upd (upd (upd (upd (upd (upd (upd (fun _ => 0) 0 291417210) 1 332864532) 2 173107395) 3 51382989) 4 266274540) 5 294949755) 6 283368645) 7 230359626) 8 115696674) 9 65554785) 10 24977727) 11 123189336) 12 273666600) 13 108693171) 14 230501781) 15 117687573) 16 191610176) 17 78983451) 18 132328809) 19 224799543) 20 21867813) 21 209249973) 22 20962395) 23 191594322) 24 187539624))), ((u 2), .inr (3, [.ref (u 0), .ref p14, .int 0]))]) 3 37 :=
  CC.mk (by decide) rfl (Nat.le_of_ble_eq_true rfl) (fun hO => by
    refine k_aload_n hO dX4_init_0 0 rfl rfl ?_
    refine k_obj hO xw287 xw145 xw146 (Nat.le_of_ble_eq_true rfl) (Nat.le_of_ble_eq_true rfl) dX4_init_1 ?_
    refine k_aload_n hO dX4_init_4 0 rfl rfl ?_
    refine k_new hO nlX4_9 fsX8 (w' := fun q5 => [(h0, .inr (4, [.null, .null, .null])), (p2, .inr (9, [.int 0, .int 0, .ref p3, .ref p4, .ref p5, .int 0, .ref p6, .ref p7, .int 0, .ref p8, .ref p9, .ref p10, .int 0, .ref p11, .ref p12, .ref p13, .int 0, .ref p14, .ref p15])), (q5, .inr (8, [.null, .null, .int 0, .int 0, .int 0, .int 0, .int 0, .int 0, .int 0]))]) (fun _ => rfl) (Nat.le_of_ble_eq_true rfl) (Nat.le_of_ble_eq_true rfl) dX4_init_5 (fun q5 => ?_)
    refine k_dup hO dX4_init_8 rfl ?_
    refine k_aload_n hO dX4_init_9 1 rfl rfl ?_
    refine k_callI hO [2] [0, 1] (wr := [(h0, .inr (4, [.null, .null, .null])), (p2, .inr (9, [.int 0, .int 0, .ref p3, .ref p4, .ref p5, .int 0, .ref p6, .ref p7, .int 0, .ref p8, .ref p9, .ref p10, .int 0, .ref p11, .ref p12, .ref p13, .int 0, .ref p14, .ref p15]))]) mdX8_init w291 rfl w290 (ccX8_init q5 p1) rfl rfl (Nat.le_of_ble_eq_true rfl) (Nat.le_of_ble_eq_true rfl) rfl (As := [.ref _]) (st := [.ref _, .ref _]) rfl (Nat.le_of_ble_eq_true rfl) rfl rfl rfl rfl (by decide) (w' := fun u10 => [(h0, .inr (4, [.null, .null, .null])), (p2, .inr (9, [.int 0, .int 0, .ref p3, .ref p4, .ref p5, .int 0, .ref p6, .ref p7, .int 0, .ref p8, .ref p9, .ref p10, .int 0, .ref p11, .ref p12, .ref p13, .int 0, .ref p14, .ref p15])), (q5, .inr (8, [.ref p1, .ref (u10 0), .int 259, .int 0, .int 0, .int 0, .int 0, .int 0, .int (-1)])), ((u10 0), .inl (cy 0, 25, .inl (upd (upd (upd (upd (upd (upd (upd (upd (upd (upd (upd (upd (upd (upd (upd (upd (upd (upd (upd (upd (upd (upd (upd (upd (upd (fun _ => 0) 0 291417210) 1 332864532) 2 173107395) 3 51382989) 4 266274540) 5 294949755) 6 283368645) 7 230359626) 8 115696674) 9 65554785) 10 24977727) 11 123189336) 12 273666600) 13 108693171) 14 230501781) 15 117687573) 16 191610176) 17 78983451) 18 132328809) 19 224799543) 20 21867813) 21 209249973) 22 20962395) 23 191594322) 24 187539624)))]) (fun _ => rfl) (Nat.le_of_ble_eq_true rfl) (Nat.le_of_ble_eq_true rfl) dX4_init_10 (fun u10 => ?_)
    refine k_putF hO flX4_14 0 rfl rfl rfl rfl rfl rfl (Nat.le_of_ble_eq_true rfl) (ws' := [(h0, .inr (4, [.ref q5, .null, .null])), (p2, .inr (9, [.int 0, .int 0, .ref p3, .ref p4, .ref p5, .int 0, .ref p6, .ref p7, .int 0, .ref p8, .ref p9, .ref p10, .int 0, .ref p11, .ref p12, .ref p13, .int 0, .ref p14, .ref p15])), (q5, .inr (8, [.ref p1, .ref (u10 0), .int 259, .int 0, .int 0, .int 0, .int 0, .int 0, .int (-1)])), ((u10 0), .inl (cy 0, 25, .inl (upd (upd (upd (upd (upd (upd (upd (upd (upd (upd (upd (upd (upd (upd (upd (upd (upd (upd (upd (upd (upd (upd (upd (upd (upd (fun _ => 0) 0 291417210) 1 332864532) 2 173107395) 3 51382989) 4 266274540) 5 294949755) 6 283368645) 7 230359626) 8 115696674) 9 65554785) 10 24977727) 11 123189336) 12 273666600) 13 108693171) 14 230501781) 15 117687573) 16 191610176) 17 78983451) 18 132328809) 19 224799543) 20 21867813) 21 209249973) 22 20962395) 23 191594322) 24 187539624)))]) rfl dX4_init_13 ?_
    refine k_aload_n hO dX4_init_16 0 rfl rfl ?_
    refine k_new hO nlX4_20 fsX3 (w' := fun q17 => [(h0, .inr (4, [.ref q5, .null, .null])), (p2, .inr (9, [.int 0, .int 0, .ref p3, .ref p4, .ref p5, .int 0, .ref p6, .ref p7, .int 0, .ref p8, .ref p9, .ref p10, .int 0, .ref p11, .ref p12, .ref p13, .int 0, .ref p14, .ref p15])), (q5, .inr (8, [.ref p1, .ref (u10 0), .int 259, .int 0, .int 0, .int 0, .int 0, .int 0, .int (-1)])), ((u10 0), .inl (cy 0, 25, .inl (upd (upd (upd (upd (upd (upd (upd (upd (upd (upd (upd (upd (upd (upd (upd (upd (upd (upd (upd (upd (upd (upd (upd (upd (upd (fun _ => 0) 0 291417210) 1 332864532) 2 173107395) 3 51382989) 4 266274540) 5 294949755) 6 283368645) 7 230359626) 8 115696674) 9 65554785) 10 24977727) 11 123189336) 12 273666600) 13 108693171) 14 230501781) 15 117687573) 16 191610176) 17 78983451) 18 132328809) 19 224799543) 20 21867813) 21 209249973) 22 20962395) 23 191594322) 24 187539624))), (q17, .inr (3, [.null, .null, .int 0]))]) (fun _ => rfl) (Nat.le_of_ble_eq_true rfl) (Nat.le_of_ble_eq_true rfl) dX4_init_17 (fun q17 => ?_)
    refine k_dup hO dX4_init_20 rfl ?_
    refine k_aload_n hO dX4_init_21 0 rfl rfl ?_
    refine k_get hO flX4_14 0 rfl (v := .ref q5) rfl dX4_init_22 ?_
    refine k_aload_n hO dX4_init_25 2 rfl rfl ?_
    refine k_get hO flX4_22 1 rfl (v := .ref p14) rfl dX4_init_26 ?_
    refine k_callI hO [4] [0, 1, 2, 3] (wr := [(h0, .inr (4, [.ref q5, .null, .null])), (p2, .inr (9, [.int 0, .int 0, .ref p3, .ref p4, .ref p5, .int 0, .ref p6, .ref p7, .int 0, .ref p8, .ref p9, .ref p10, .int 0, .ref p11, .ref p12, .ref p13, .int 0, .ref p14, .ref p15])), (q5, .inr (8, [.ref p1, .ref (u10 0), .int 259, .int 0, .int 0, .int 0, .int 0, .int 0, .int (-1)])), ((u10 0), .inl (cy 0, 25, .inl (upd (upd (upd (upd (upd (upd (upd (upd (upd (upd (upd (upd (upd (upd (upd (upd (upd (upd (upd (upd (upd (upd (upd (upd (upd (fun _ => 0) 0 291417210) 1 332864532) 2 173107395) 3 51382989) 4 266274540) 5 294949755) 6 283368645) 7 230359626) 8 115696674) 9 65554785) 10 24977727) 11 123189336) 12 273666600) 13 108693171) 14 230501781) 15 117687573) 16 191610176) 17 78983451) 18 132328809) 19 224799543) 20 21867813) 21 209249973) 22 20962395) 23 191594322) 24 187539624)))]) mdX3_init w386 rfl w385 (ccX3_init q17 q5 p14) rfl rfl (Nat.le_of_ble_eq_true rfl) (Nat.le_of_ble_eq_true rfl) rfl (As := [.ref _, .ref _]) (st := [.ref _, .ref _]) rfl (Nat.le_of_ble_eq_true rfl) rfl rfl rfl rfl (by decide) (w' := fun u29 => [(h0, .inr (4, [.ref q5, .null, .null])), (p2, .inr (9, [.int 0, .int 0, .ref p3, .ref p4, .ref p5, .int 0, .ref p6, .ref p7, .int 0, .ref p8, .ref p9, .ref p10, .int 0, .ref p11, .ref p12, .ref p13, .int 0, .ref p14, .ref p15])), (q5, .inr (8, [.ref p1, .ref (u10 0), .int 259, .int 0, .int 0, .int 0, .int 0, .int 0, .int (-1)])), ((u10 0), .inl (cy 0, 25, .inl (upd (upd (upd (upd (upd (upd (upd (upd (upd (upd (upd (upd (upd (upd (upd (upd (upd (upd (upd (upd (upd (upd (upd (upd (upd (fun _ => 0) 0 291417210) 1 332864532) 2 173107395) 3 51382989) 4 266274540) 5 294949755) 6 283368645) 7 230359626) 8 115696674) 9 65554785) 10 24977727) 11 123189336) 12 273666600) 13 108693171) 14 230501781) 15 117687573) 16 191610176) 17 78983451) 18 132328809) 19 224799543) 20 21867813) 21 209249973) 22 20962395) 23 191594322) 24 187539624))), (q17, .inr (3, [.ref q5, .ref p14, .int 0]))]) (fun _ => rfl) (Nat.le_of_ble_eq_true rfl) (Nat.le_of_ble_eq_true rfl) dX4_init_29 (fun u29 => ?_)
    refine k_putF hO flX4_31 0 rfl rfl rfl rfl rfl rfl (Nat.le_of_ble_eq_true rfl) (ws' := [(h0, .inr (4, [.ref q5, .ref q17, .null])), (p2, .inr (9, [.int 0, .int 0, .ref p3, .ref p4, .ref p5, .int 0, .ref p6, .ref p7, .int 0, .ref p8, .ref p9, .ref p10, .int 0, .ref p11, .ref p12, .ref p13, .int 0, .ref p14, .ref p15])), (q5, .inr (8, [.ref p1, .ref (u10 0), .int 259, .int 0, .int 0, .int 0, .int 0, .int 0, .int (-1)])), ((u10 0), .inl (cy 0, 25, .inl (upd (upd (upd (upd (upd (upd (upd (upd (upd (upd (upd (upd (upd (upd (upd (upd (upd (upd (upd (upd (upd (upd (upd (upd (upd (fun _ => 0) 0 291417210) 1 332864532) 2 173107395) 3 51382989) 4 266274540) 5 294949755) 6 283368645) 7 230359626) 8 115696674) 9 65554785) 10 24977727) 11 123189336) 12 273666600) 13 108693171) 14 230501781) 15 117687573) 16 191610176) 17 78983451) 18 132328809) 19 224799543) 20 21867813) 21 209249973) 22 20962395) 23 191594322) 24 187539624))), (q17, .inr (3, [.ref q5, .ref p14, .int 0]))]) rfl dX4_init_32 ?_
    refine k_aload_n hO dX4_init_35 0 rfl rfl ?_
    refine k_aload_n hO dX4_init_36 2 rfl rfl ?_
    refine k_put hO flX4_35 0 rfl rfl rfl rfl rfl (Nat.le_of_ble_eq_true rfl) (ws' := [(h0, .inr (4, [.ref q5, .ref q17, .ref p2])), (p2, .inr (9, [.int 0, .int 0, .ref p3, .ref p4, .ref p5, .int 0, .ref p6, .ref p7, .int 0, .ref p8, .ref p9, .ref p10, .int 0, .ref p11, .ref p12, .ref p13, .int 0, .ref p14, .ref p15])), (q5, .inr (8, [.ref p1, .ref (u10 0), .int 259, .int 0, .int 0, .int 0, .int 0, .int 0, .int (-1)])), ((u10 0), .inl (cy 0, 25, .inl (upd (upd (upd (upd (upd (upd (upd (upd (upd (upd (upd (upd (upd (upd (upd (upd (upd (upd (upd (upd (upd (upd (upd (upd (upd (fun _ => 0) 0 291417210) 1 332864532) 2 173107395) 3 51382989) 4 266274540) 5 294949755) 6 283368645) 7 230359626) 8 115696674) 9 65554785) 10 24977727) 11 123189336) 12 273666600) 13 108693171) 14 230501781) 15 117687573) 16 191610176) 17 78983451) 18 132328809) 19 224799543) 20 21867813) 21 209249973) 22 20962395) 23 191594322) 24 187539624))), (q17, .inr (3, [.ref q5, .ref p14, .int 0]))]) rfl dX4_init_37 ?_
    exact k_ret hO (fun i => [q5, (u10 0), q17].getD i 0) [0, 1, 2, 3, 4] rfl rfl rfl dX4_init_40)
end
