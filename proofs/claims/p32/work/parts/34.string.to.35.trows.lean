section
theorem bsw0 : (okW 126 (Cond.initialized "java/lang/String") && (okW 127 (Cond.initialized "java/lang/StringLatin1") && (okW 128 (Cond.initialized "jdk/internal/util/Preconditions") && (okW 299 (Cond.methodLink "java/lang/String" 335 ⟨"java/lang/String", "coder", "()B"⟩) && (okW 300 (Cond.instanceMethod ⟨"java/lang/String", "coder", "()B"⟩) && (okW 301 (Cond.selects "java/lang/String" ⟨"java/lang/String", "coder", "()B"⟩ ⟨"java/lang/String", "coder", "()B"⟩) && (okW 303 (Cond.fieldLink "java/lang/String" 38 "java/lang/String" "COMPACT_STRINGS" "Z") && (okW 309 (Cond.methodLink "java/lang/String" 492 ⟨"java/lang/String", "isLatin1", "()Z"⟩) && (okW 310 (Cond.instanceMethod ⟨"java/lang/String", "isLatin1", "()Z"⟩) && (okW 311 (Cond.selects "java/lang/String" ⟨"java/lang/String", "isLatin1", "()Z"⟩ ⟨"java/lang/String", "isLatin1", "()Z"⟩) && (okW 313 (Cond.methodLink "java/lang/String" 495 ⟨"java/lang/StringLatin1", "charAt", "([BI)C"⟩) && (okW 314 (Cond.static ⟨"java/lang/StringLatin1", "charAt", "([BI)C"⟩) && (okW 316 (Cond.methodLink "java/lang/StringLatin1" 9 ⟨"java/lang/String", "checkIndex", "(II)V"⟩) && (okW 317 (Cond.static ⟨"java/lang/String", "checkIndex", "(II)V"⟩) && (okW 319 (Cond.fieldLink "java/lang/String" 1053 "jdk/internal/util/Preconditions" "SIOOBE_FORMATTER" "Ljava/util/function/BiFunction;") && (okW 321 (Cond.methodLink "java/lang/String" 1059 ⟨"jdk/internal/util/Preconditions", "checkIndex", "(IILjava/util/function/BiFunction;)I"⟩) && (okW 322 (Cond.static ⟨"jdk/internal/util/Preconditions", "checkIndex", "(IILjava/util/function/BiFunction;)I"⟩) && (okW 1884 (Cond.fieldLink "java/lang/String" 9 "java/lang/String" "value" "[B") && (okW 1885 (Cond.fieldLink "java/lang/String" 15 "java/lang/String" "coder" "B") && (true)))))))))))))))))))) = true := by decide +kernel
theorem w126 : Cond.initialized "java/lang/String" ∈ lw_g := okW_g (an1 bsw0)
theorem w127 : Cond.initialized "java/lang/StringLatin1" ∈ lw_g := okW_g (an1 (an2 bsw0))
theorem w128 : Cond.initialized "jdk/internal/util/Preconditions" ∈ lw_g := okW_g (an1 (an2 (an2 bsw0)))
theorem w299 : Cond.methodLink "java/lang/String" 335 ⟨"java/lang/String", "coder", "()B"⟩ ∈ lw_g := okW_g (an1 (an2 (an2 (an2 bsw0))))
theorem w300 : Cond.instanceMethod ⟨"java/lang/String", "coder", "()B"⟩ ∈ lw_g := okW_g (an1 (an2 (an2 (an2 (an2 bsw0)))))
theorem w301 : Cond.selects "java/lang/String" ⟨"java/lang/String", "coder", "()B"⟩ ⟨"java/lang/String", "coder", "()B"⟩ ∈ lw_g := okW_g (an1 (an2 (an2 (an2 (an2 (an2 bsw0))))))
theorem w303 : Cond.fieldLink "java/lang/String" 38 "java/lang/String" "COMPACT_STRINGS" "Z" ∈ lw_g := okW_g (an1 (an2 (an2 (an2 (an2 (an2 (an2 bsw0)))))))
theorem w309 : Cond.methodLink "java/lang/String" 492 ⟨"java/lang/String", "isLatin1", "()Z"⟩ ∈ lw_g := okW_g (an1 (an2 (an2 (an2 (an2 (an2 (an2 (an2 bsw0))))))))
theorem w310 : Cond.instanceMethod ⟨"java/lang/String", "isLatin1", "()Z"⟩ ∈ lw_g := okW_g (an1 (an2 (an2 (an2 (an2 (an2 (an2 (an2 (an2 bsw0)))))))))
theorem w311 : Cond.selects "java/lang/String" ⟨"java/lang/String", "isLatin1", "()Z"⟩ ⟨"java/lang/String", "isLatin1", "()Z"⟩ ∈ lw_g := okW_g (an1 (an2 (an2 (an2 (an2 (an2 (an2 (an2 (an2 (an2 bsw0))))))))))
theorem w313 : Cond.methodLink "java/lang/String" 495 ⟨"java/lang/StringLatin1", "charAt", "([BI)C"⟩ ∈ lw_g := okW_g (an1 (an2 (an2 (an2 (an2 (an2 (an2 (an2 (an2 (an2 (an2 bsw0)))))))))))
theorem w314 : Cond.static ⟨"java/lang/StringLatin1", "charAt", "([BI)C"⟩ ∈ lw_g := okW_g (an1 (an2 (an2 (an2 (an2 (an2 (an2 (an2 (an2 (an2 (an2 (an2 bsw0))))))))))))
theorem w316 : Cond.methodLink "java/lang/StringLatin1" 9 ⟨"java/lang/String", "checkIndex", "(II)V"⟩ ∈ lw_g := okW_g (an1 (an2 (an2 (an2 (an2 (an2 (an2 (an2 (an2 (an2 (an2 (an2 (an2 bsw0)))))))))))))
theorem w317 : Cond.static ⟨"java/lang/String", "checkIndex", "(II)V"⟩ ∈ lw_g := okW_g (an1 (an2 (an2 (an2 (an2 (an2 (an2 (an2 (an2 (an2 (an2 (an2 (an2 (an2 bsw0))))))))))))))
theorem w319 : Cond.fieldLink "java/lang/String" 1053 "jdk/internal/util/Preconditions" "SIOOBE_FORMATTER" "Ljava/util/function/BiFunction;" ∈ lw_g := okW_g (an1 (an2 (an2 (an2 (an2 (an2 (an2 (an2 (an2 (an2 (an2 (an2 (an2 (an2 (an2 bsw0)))))))))))))))
theorem w321 : Cond.methodLink "java/lang/String" 1059 ⟨"jdk/internal/util/Preconditions", "checkIndex", "(IILjava/util/function/BiFunction;)I"⟩ ∈ lw_g := okW_g (an1 (an2 (an2 (an2 (an2 (an2 (an2 (an2 (an2 (an2 (an2 (an2 (an2 (an2 (an2 (an2 bsw0))))))))))))))))
theorem w322 : Cond.static ⟨"jdk/internal/util/Preconditions", "checkIndex", "(IILjava/util/function/BiFunction;)I"⟩ ∈ lw_g := okW_g (an1 (an2 (an2 (an2 (an2 (an2 (an2 (an2 (an2 (an2 (an2 (an2 (an2 (an2 (an2 (an2 (an2 bsw0)))))))))))))))))
theorem w1884 : Cond.fieldLink "java/lang/String" 9 "java/lang/String" "value" "[B" ∈ lw_g := okW_g (an1 (an2 (an2 (an2 (an2 (an2 (an2 (an2 (an2 (an2 (an2 (an2 (an2 (an2 (an2 (an2 (an2 (an2 bsw0))))))))))))))))))
theorem w1885 : Cond.fieldLink "java/lang/String" 15 "java/lang/String" "coder" "B" ∈ lw_g := okW_g (an1 (an2 (an2 (an2 (an2 (an2 (an2 (an2 (an2 (an2 (an2 (an2 (an2 (an2 (an2 (an2 (an2 (an2 (an2 bsw0)))))))))))))))))))
theorem bsw1 : (wdC 302 ⟨"java/lang/String", "coder", "()B"⟩ cJ0_coder_7d493 1 (some .byte) && (wdC 312 ⟨"java/lang/String", "isLatin1", "()Z"⟩ cJ0_isLatin1_aae02 1 (some .boolean) && (wdC 315 ⟨"java/lang/StringLatin1", "charAt", "([BI)C"⟩ cJ1_charAt_3b067 2 (some .char) && (wdC 318 ⟨"java/lang/String", "checkIndex", "(II)V"⟩ cJ0_checkIndex_df160 2 none && (wdC 323 ⟨"jdk/internal/util/Preconditions", "checkIndex", "(IILjava/util/function/BiFunction;)I"⟩ cJ3_checkIndex_8e157 3 (some .int) && (true)))))) = true := by decide +kernel
theorem w302 : Cond.code ⟨"java/lang/String", "coder", "()B"⟩ cJ0_coder_7d493 1 (some .byte) ∈ lw_g := wdC_g (an1 bsw1)
theorem w312 : Cond.code ⟨"java/lang/String", "isLatin1", "()Z"⟩ cJ0_isLatin1_aae02 1 (some .boolean) ∈ lw_g := wdC_g (an1 (an2 bsw1))
theorem w315 : Cond.code ⟨"java/lang/StringLatin1", "charAt", "([BI)C"⟩ cJ1_charAt_3b067 2 (some .char) ∈ lw_g := wdC_g (an1 (an2 (an2 bsw1)))
theorem w318 : Cond.code ⟨"java/lang/String", "checkIndex", "(II)V"⟩ cJ0_checkIndex_df160 2 none ∈ lw_g := wdC_g (an1 (an2 (an2 (an2 bsw1))))
theorem w323 : Cond.code ⟨"jdk/internal/util/Preconditions", "checkIndex", "(IILjava/util/function/BiFunction;)I"⟩ cJ3_checkIndex_8e157 3 (some .int) ∈ lw_g := wdC_g (an1 (an2 (an2 (an2 (an2 bsw1)))))
theorem mdJ0_checkIndex_df160 : MD yJ0_checkIndex_df160 cJ0_checkIndex_df160 2 none 2 := ⟨w318, w126, by decide +kernel, by decide⟩
theorem mdJ0_coder_7d493 : MD yJ0_coder_7d493 cJ0_coder_7d493 1 (some .byte) 0 := ⟨w302, w126, by decide +kernel, by decide⟩
theorem mdJ0_isLatin1_aae02 : MD yJ0_isLatin1_aae02 cJ0_isLatin1_aae02 1 (some .boolean) 0 := ⟨w312, w126, by decide +kernel, by decide⟩
theorem mdJ1_charAt_3b067 : MD yJ1_charAt_3b067 cJ1_charAt_3b067 2 (some .char) 2 := ⟨w315, w127, by decide +kernel, by decide⟩
theorem mdJ3_checkIndex_8e157 : MD yJ3_checkIndex_8e157 cJ3_checkIndex_8e157 3 (some .int) 3 := ⟨w323, w128, by decide +kernel, by decide⟩
/-! THE STRING CONSTANT: methods of the JDK that only read it -/
def SC (l : Launch) (cy : Nat → ClassId) (B0 ka va : Nat) (y : MethodName) (bytes : ByteArray) (maxL : Nat) (rt : Option FieldType) (R : Room) (av : List Value) (r : Int32) : Prop := Met l y (.code y bytes maxL rt :: lw_g) R (va_Pc av (EX cy B0 ka va)) (vp_Si (fun x => x = r)) 0 0 (fun _ => False)
def SV (l : Launch) (cy : Nat → ClassId) (B0 ka va : Nat) (y : MethodName) (bytes : ByteArray) (maxL : Nat) (R : Room) (av : List Value) : Prop := Met l y (.code y bytes maxL none :: lw_g) R (va_Pc av (EX cy B0 ka va)) (va_Sv (fun _ => True)) 0 0 (fun _ => False)
theorem SC_blind {cy : Nat → ClassId} {B0 ka va : Nat} {av : List Value} : FrameBlind (va_Pc av (EX cy B0 ka va)) := fun a U g mk q => ⟨q.1, EX.call g mk a q.2⟩
section STR
variable {l : Launch} {cy : Nat → ClassId} {B0 ka va : Nat}
theorem scJ0_coder_7d493 : SC l cy B0 ka va yJ0_coder_7d493 cJ0_coder_7d493 1 (some .byte) ({ frames := 0, cells := 0, slots := 0, locals := 0 }) [.ref ka] 0 := by
  refine mt_ofWF (cc := cJ0_coder_7d493) (maxL := 1) (ret := (some .byte)) (by decide +kernel) rfl ?_
  intro p e s m args below meth c s₁ B hml hv
  obtain ⟨rfl, hE⟩ := hv
  have hx := B.exec
  have hb := B.bytes
  have hr := B.returns
  have hlocks := B.notSynchronized
  have hts0 := atoms_spec (ws := .code yJ0_coder_7d493 cJ0_coder_7d493 1 (some .byte) :: lw_g) B.pre
  have hts : ∀ w ∈ lw_g, w.before [.ref ka].toArray s = true := fun w hw => hts0 w (List.mem_cons_of_mem _ hw)
  have hown : s.vm.findClass yJ0_coder_7d493.cls = some m.cls := findClass_of_methodNamed B.named
  have hS : va_S (fun q => B0 ≤ q) s.heap s.heap [] := va_S.rf
  have hl := lv_entry [.ref ka] (n := 1) (Nat.le_of_ble_eq_true rfl)
  rw [lg_entry_eq]
  generalize (lg_sl [.ref ka] ++ List.replicate (1 - (lg_sl [.ref ka]).length) Slot.unset).toArray = ls at hl ⊢
  refine va_gets hx hb hE.2.2.2.2.1 hS hown (hts _ w303) (fun _ h => h) dJ0_coder_7d493_0 ?_
  refine lv_if_eq (tgt := 13) hx hb dJ0_coder_7d493_3 (by decide) (fun h => absurd h (by decide)) (fun _ => ?_)
  refine lv_aload_n hx hb dJ0_coder_7d493_6 rfl (lv_at hl 0 rfl) ?_
  refine vk_getf hx hb (hE.2.2.2.1.1 0 (by decide)).2.1 hS hown (hts _ w1885) (fun _ h => h) dJ0_coder_7d493_7 ?_
  refine lv_goto (tgt := 14) hx hb dJ0_coder_7d493_10 (by decide) ?_
  exact W.zret (v := 0) (ty := .byte) hx hb hr rfl (fun t ht hW => ⟨0, rfl, rfl, ht⟩) (fun _ h => absurd h List.not_mem_nil) dJ0_coder_7d493_14 hlocks
theorem scJ0_isLatin1_aae02 : SC l cy B0 ka va yJ0_isLatin1_aae02 cJ0_isLatin1_aae02 1 (some .boolean) ({ frames := 0, cells := 0, slots := 0, locals := 0 }) [.ref ka] 1 := by
  refine mt_ofWF (cc := cJ0_isLatin1_aae02) (maxL := 1) (ret := (some .boolean)) (by decide +kernel) rfl ?_
  intro p e s m args below meth c s₁ B hml hv
  obtain ⟨rfl, hE⟩ := hv
  have hx := B.exec
  have hb := B.bytes
  have hr := B.returns
  have hlocks := B.notSynchronized
  have hts0 := atoms_spec (ws := .code yJ0_isLatin1_aae02 cJ0_isLatin1_aae02 1 (some .boolean) :: lw_g) B.pre
  have hts : ∀ w ∈ lw_g, w.before [.ref ka].toArray s = true := fun w hw => hts0 w (List.mem_cons_of_mem _ hw)
  have hown : s.vm.findClass yJ0_isLatin1_aae02.cls = some m.cls := findClass_of_methodNamed B.named
  have hS : va_S (fun q => B0 ≤ q) s.heap s.heap [] := va_S.rf
  have hl := lv_entry [.ref ka] (n := 1) (Nat.le_of_ble_eq_true rfl)
  rw [lg_entry_eq]
  generalize (lg_sl [.ref ka] ++ List.replicate (1 - (lg_sl [.ref ka]).length) Slot.unset).toArray = ls at hl ⊢
  refine va_gets hx hb hE.2.2.2.2.1 hS hown (hts _ w303) (fun _ h => h) dJ0_isLatin1_aae02_0 ?_
  refine lv_if_eq (tgt := 17) hx hb dJ0_isLatin1_aae02_3 (by decide) (fun h => absurd h (by decide)) (fun _ => ?_)
  refine lv_aload_n hx hb dJ0_isLatin1_aae02_6 rfl (lv_at hl 0 rfl) ?_
  refine vk_getf hx hb (hE.2.2.2.1.1 0 (by decide)).2.1 hS hown (hts _ w1885) (fun _ h => h) dJ0_isLatin1_aae02_7 ?_
  refine lv_if_ne (tgt := 17) hx hb dJ0_isLatin1_aae02_10 (by decide) (fun h => absurd rfl h) (fun _ => ?_)
  refine lv_iconst (v := 1) hx hb dJ0_isLatin1_aae02_13 (by decide) ?_
  refine lv_goto (tgt := 18) hx hb dJ0_isLatin1_aae02_14 (by decide) ?_
  exact W.zret (v := 1) (ty := .boolean) hx hb hr rfl (fun t ht hW => ⟨1, rfl, rfl, ht⟩) (fun _ h => absurd h List.not_mem_nil) dJ0_isLatin1_aae02_18 hlocks
theorem scJ0_length_8abf5 : SC l cy B0 ka va yJ0_length_8abf5 cJ0_length_8abf5 1 (some .int) ({ frames := 1, cells := 0, slots := 0, locals := 20 }) [.ref ka] 121 := by
  refine mt_ofWF (cc := cJ0_length_8abf5) (maxL := 1) (ret := (some .int)) (by decide +kernel) rfl ?_
  intro p e s m args below meth c s₁ B hml hv
  obtain ⟨rfl, hE⟩ := hv
  have hx := B.exec
  have hb := B.bytes
  have hr := B.returns
  have hlocks := B.notSynchronized
  have hts0 := atoms_spec (ws := .code yJ0_length_8abf5 cJ0_length_8abf5 1 (some .int) :: lw_g) B.pre
  have hts : ∀ w ∈ lw_g, w.before [.ref ka].toArray s = true := fun w hw => hts0 w (List.mem_cons_of_mem _ hw)
  have hown : s.vm.findClass yJ0_length_8abf5.cls = some m.cls := findClass_of_methodNamed B.named
  have hS : va_S (fun q => B0 ≤ q) s.heap s.heap [] := va_S.rf
  have hl := lv_entry [.ref ka] (n := 1) (Nat.le_of_ble_eq_true rfl)
  rw [lg_entry_eq]
  generalize (lg_sl [.ref ka] ++ List.replicate (1 - (lg_sl [.ref ka]).length) Slot.unset).toArray = ls at hl ⊢
  refine lv_aload_n hx hb dJ0_length_8abf5_0 rfl (lv_at hl 0 rfl) ?_
  refine vk_getf hx hb (hE.2.2.2.1.1 0 (by decide)).2.2.1 hS hown (hts _ w1884) (fun _ h => h) dJ0_length_8abf5_1 ?_
  refine va_tlen hx hb (hE.2.2.2.1.1 0 (by decide)).2.2.2 hS (v := 121) rfl dJ0_length_8abf5_4 ?_
  refine lv_aload_n hx hb dJ0_length_8abf5_5 rfl (lv_at hl 0 rfl) ?_
  refine vp_callSi (W.runV (C := "java/lang/String") (As := []) (rest := [.int 121]) ⟨hx, hb, hml, hown, hts⟩ (scJ0_coder_7d493) ⟨callB_of 0 hts (gd_all mdJ0_coder_7d493) rfl rfl rfl (hts _ w126) (hts _ w299) mdJ0_coder_7d493.2.2.1 ⟨(Nat.le_of_ble_eq_true rfl), (Nat.le_of_ble_eq_true rfl)⟩, hts _ w300, hts _ w301⟩ ⟨SC_blind, vk_recv hE.2.2.2.1 (i := 0) (by decide) hS, fun U hU hW => ⟨rfl, EX.st hW (fun a h1 h2 => by rw [hU]) hE⟩⟩ rfl rfl hl.1 rfl (lv_room (Nat.le_of_ble_eq_true rfl)) dJ0_length_8abf5_6 ⟨Nat.zero_le _, Nat.zero_le _⟩) (fun r_ hr_ => ?_)
  subst hr_
  refine lv_ishr hx hb dJ0_length_8abf5_9 ?_
  exact W.iret (v := 121) hx hb hr (fun t ht hW => ⟨121, rfl, rfl, ht⟩) (fun _ h => absurd h List.not_mem_nil) dJ0_length_8abf5_10 hlocks
theorem scJ3_checkIndex_8e157 {i j : Int32} {v : Value} (hv2 : v = .null ∨ ∃ t : Nat, v = .ref t) (h1 : ¬ i < 0) (h2 : i < j) : SC l cy B0 ka va yJ3_checkIndex_8e157 cJ3_checkIndex_8e157 3 (some .int) ({ frames := 0, cells := 0, slots := 0, locals := 0 }) [.int i, .int j, v] i := by
  refine mt_ofWF (cc := cJ3_checkIndex_8e157) (maxL := 3) (ret := (some .int)) (by decide +kernel) rfl ?_
  intro p e s m args below meth c s₁ B hml hv
  obtain ⟨rfl, hE⟩ := hv
  have hx := B.exec
  have hb := B.bytes
  have hr := B.returns
  have hlocks := B.notSynchronized
  have hts0 := atoms_spec (ws := .code yJ3_checkIndex_8e157 cJ3_checkIndex_8e157 3 (some .int) :: lw_g) B.pre
  have hts : ∀ w ∈ lw_g, w.before [.int i, .int j, v].toArray s = true := fun w hw => hts0 w (List.mem_cons_of_mem _ hw)
  have hown : s.vm.findClass yJ3_checkIndex_8e157.cls = some m.cls := findClass_of_methodNamed B.named
  have hS : va_S (fun q => B0 ≤ q) s.heap s.heap [] := va_S.rf
  have hlen : (lg_sl [.int i, .int j, v]).length ≤ 3 := by rcases hv2 with rfl | ⟨t, rfl⟩ <;> exact Nat.le_of_ble_eq_true rfl
  have hl := lv_entry [.int i, .int j, v] (n := 3) hlen
  rw [lg_entry_eq]
  generalize (lg_sl [.int i, .int j, v] ++ List.replicate (3 - (lg_sl [.int i, .int j, v]).length) Slot.unset).toArray = ls at hl ⊢
  have hl2 : lv_has ls 3 [(0, .int i), (1, .int j)] := ⟨hl.1, hl.2.1, fun q hq => hl.2.2 q (by
    simp only [List.mem_cons, List.not_mem_nil, or_false] at hq
    rcases hq with rfl | rfl <;> simp [lv_args, Value.category])⟩
  refine lv_iload_n hx hb dJ3_checkIndex_8e157_0 rfl (lv_at hl2 0 rfl) ?_
  refine lv_if_lt (tgt := 9) hx hb dJ3_checkIndex_8e157_1 (by decide) (fun h => absurd h h1) (fun _ => ?_)
  refine lv_iload_n hx hb dJ3_checkIndex_8e157_4 rfl (lv_at hl2 0 rfl) ?_
  refine lv_iload_n hx hb dJ3_checkIndex_8e157_5 rfl (lv_at hl2 1 rfl) ?_
  refine lv_icmp_lt (tgt := 16) hx hb dJ3_checkIndex_8e157_6 (by decide) (fun _ => ?_) (fun h => absurd h2 h)
  refine lv_iload_n hx hb dJ3_checkIndex_8e157_16 rfl (lv_at hl2 0 rfl) ?_
  exact W.iret (v := i) hx hb hr (fun t ht hW => ⟨i, rfl, rfl, ht⟩) (fun _ h => absurd h List.not_mem_nil) dJ3_checkIndex_8e157_17 hlocks
theorem scJ0_checkIndex_df160 {i j : Int32} (h1 : ¬ i < 0) (h2 : i < j) : SV l cy B0 ka va yJ0_checkIndex_df160 cJ0_checkIndex_df160 2 ({ frames := 1, cells := 0, slots := 0, locals := 24 }) [.int i, .int j] := by
  refine mt_ofWF (cc := cJ0_checkIndex_df160) (maxL := 2) (ret := none) (by decide +kernel) rfl ?_
  intro p e s m args below meth c s₁ B hml hv
  obtain ⟨rfl, hE⟩ := hv
  have hx := B.exec
  have hb := B.bytes
  have hr := B.returns
  have hlocks := B.notSynchronized
  have hts0 := atoms_spec (ws := .code yJ0_checkIndex_df160 cJ0_checkIndex_df160 2 none :: lw_g) B.pre
  have hts : ∀ w ∈ lw_g, w.before [.int i, .int j].toArray s = true := fun w hw => hts0 w (List.mem_cons_of_mem _ hw)
  have hown : s.vm.findClass yJ0_checkIndex_df160.cls = some m.cls := findClass_of_methodNamed B.named
  have hS : va_S (fun q => B0 ≤ q) s.heap s.heap [] := va_S.rf
  have hl := lv_entry [.int i, .int j] (n := 2) (Nat.le_of_ble_eq_true rfl)
  rw [lg_entry_eq]
  generalize (lg_sl [.int i, .int j] ++ List.replicate (2 - (lg_sl [.int i, .int j]).length) Slot.unset).toArray = ls at hl ⊢
  refine lv_iload_n hx hb dJ0_checkIndex_df160_0 rfl (lv_at hl 0 rfl) ?_
  refine lv_iload_n hx hb dJ0_checkIndex_df160_1 rfl (lv_at hl 1 rfl) ?_
  rcases hE.2.2.2.2.2 with hz | ⟨tz, hz⟩
  · refine va_gets hx hb hz hS hown (hts _ w319) (fun _ h => h) dJ0_checkIndex_df160_2 ?_
    refine vp_callSi (W.runS (As := [.int i, .int j, .null]) (rest := []) ⟨hx, hb, hml, hown, hts⟩ (scJ3_checkIndex_8e157 (Or.inl rfl) h1 h2) ⟨callB_of 3 hts (gd_all mdJ3_checkIndex_8e157) rfl rfl rfl (hts _ w128) (hts _ w321) mdJ3_checkIndex_8e157.2.2.1 ⟨(Nat.le_of_ble_eq_true rfl), (Nat.le_of_ble_eq_true rfl)⟩, hts _ w322⟩ ⟨SC_blind, fun U hU hW => ⟨rfl, EX.st hW (fun a h1 h2 => by rw [hU]) hE⟩⟩ rfl rfl hl.1 rfl (lv_room (Nat.le_of_ble_eq_true rfl)) dJ0_checkIndex_df160_5 ⟨Nat.zero_le _, Nat.zero_le _⟩) (fun r_ hr_ => ?_)
    refine lv_pop hx hb dJ0_checkIndex_df160_8 rfl ?_
    exact W.vret hx hb hr (fun t ht hW => ⟨rfl, trivial, ht⟩) (fun _ h => absurd h List.not_mem_nil) dJ0_checkIndex_df160_9 hlocks
  · refine va_gets hx hb hz hS hown (hts _ w319) (fun _ h => h) dJ0_checkIndex_df160_2 ?_
    refine vp_callSi (W.runS (As := [.int i, .int j, .ref tz]) (rest := []) ⟨hx, hb, hml, hown, hts⟩ (scJ3_checkIndex_8e157 (Or.inr ⟨tz, rfl⟩) h1 h2) ⟨callB_of 3 hts (gd_all mdJ3_checkIndex_8e157) rfl rfl rfl (hts _ w128) (hts _ w321) mdJ3_checkIndex_8e157.2.2.1 ⟨(Nat.le_of_ble_eq_true rfl), (Nat.le_of_ble_eq_true rfl)⟩, hts _ w322⟩ ⟨SC_blind, fun U hU hW => ⟨rfl, EX.st hW (fun a h1 h2 => by rw [hU]) hE⟩⟩ rfl rfl hl.1 rfl (lv_room (Nat.le_of_ble_eq_true rfl)) dJ0_checkIndex_df160_5 ⟨Nat.zero_le _, Nat.zero_le _⟩) (fun r_ hr_ => ?_)
    refine lv_pop hx hb dJ0_checkIndex_df160_8 rfl ?_
    exact W.vret hx hb hr (fun t ht hW => ⟨rfl, trivial, ht⟩) (fun _ h => absurd h List.not_mem_nil) dJ0_checkIndex_df160_9 hlocks
theorem ow_nar : ∀ k, k < 121 → narrow .char (.int (((owB.getD k 0) &&& 255).toUInt32 % 65536).toInt32) = .int (owB.getD k 0) ∧ (((owB.getD k 0) &&& 255).toUInt32 % 65536).toInt32 = owB.getD k 0 := by decide +kernel
theorem scJ1_charAt_3b067 {k : Nat} (hk : k < 121) : SC l cy B0 ka va yJ1_charAt_3b067 cJ1_charAt_3b067 2 (some .char) ({ frames := 2, cells := 0, slots := 0, locals := 50 }) [.ref va, .int (nI k)] (owB.getD k 0) := by
  refine mt_ofWF (cc := cJ1_charAt_3b067) (maxL := 2) (ret := (some .char)) (by decide +kernel) rfl ?_
  intro p e s m args below meth c s₁ B hml hv
  obtain ⟨rfl, hE⟩ := hv
  have hx := B.exec
  have hb := B.bytes
  have hr := B.returns
  have hlocks := B.notSynchronized
  have hts0 := atoms_spec (ws := .code yJ1_charAt_3b067 cJ1_charAt_3b067 2 (some .char) :: lw_g) B.pre
  have hts : ∀ w ∈ lw_g, w.before [.ref va, .int (nI k)].toArray s = true := fun w hw => hts0 w (List.mem_cons_of_mem _ hw)
  have hown : s.vm.findClass yJ1_charAt_3b067.cls = some m.cls := findClass_of_methodNamed B.named
  have hS : va_S (fun q => B0 ≤ q) s.heap s.heap [] := va_S.rf
  have hl := lv_entry [.ref va, .int (nI k)] (n := 2) (Nat.le_of_ble_eq_true rfl)
  rw [lg_entry_eq]
  generalize (lg_sl [.ref va, .int (nI k)] ++ List.replicate (2 - (lg_sl [.ref va, .int (nI k)]).length) Slot.unset).toArray = ls at hl ⊢
  have h1 : ¬ nI k < 0 := nI_pos (by omega)
  have h2 : nI k < 121 := by
    have := nI_lt (a := k) (b := 121) hk (by decide)
    exact this
  refine lv_iload_n hx hb dJ1_charAt_3b067_0 rfl (lv_at hl 1 rfl) ?_
  refine lv_aload_n hx hb dJ1_charAt_3b067_1 rfl (lv_at hl 0 rfl) ?_
  refine va_tlen hx hb (hE.2.2.2.1.1 0 (by decide)).2.2.2 hS (v := 121) rfl dJ1_charAt_3b067_2 ?_
  refine va_csv (W.runS (As := [.int (nI k), .int 121]) (rest := []) ⟨hx, hb, hml, hown, hts⟩ (scJ0_checkIndex_df160 h1 h2) ⟨callB_of 2 hts (gd_all mdJ0_checkIndex_df160) rfl rfl rfl (hts _ w126) (hts _ w316) mdJ0_checkIndex_df160.2.2.1 ⟨(Nat.le_of_ble_eq_true rfl), (Nat.le_of_ble_eq_true rfl)⟩, hts _ w317⟩ ⟨SC_blind, fun U hU hW => ⟨rfl, EX.st hW (fun a h1 h2 => by rw [hU]) hE⟩⟩ rfl rfl hl.1 rfl (lv_room (Nat.le_of_ble_eq_true rfl)) dJ1_charAt_3b067_3 ⟨Nat.zero_le _, Nat.zero_le _⟩) (fun _ => ?_)
  refine lv_aload_n hx hb dJ1_charAt_3b067_6 rfl (lv_at hl 0 rfl) ?_
  refine lv_iload_n hx hb dJ1_charAt_3b067_7 rfl (lv_at hl 1 rfl) ?_
  refine va_tb hx hb (hE.2.2.2.1.1 0 (by decide)).2.2.2 hS (v := .int (owB.getD k 0)) (vp_in_nI hk (by decide)) (by rw [nI_clamp (by omega)]; rfl) dJ1_charAt_3b067_8 ?_
  refine lv_sipush (v := 255) hx hb dJ1_charAt_3b067_9 (by decide) ?_
  refine lv_iand hx hb dJ1_charAt_3b067_12 ?_
  refine lv_i2c hx hb dJ1_charAt_3b067_13 rfl ?_
  rw [(ow_nar k hk).2]
  exact W.zret (v := owB.getD k 0) (ty := .char) hx hb hr (by have h9 := (ow_nar k hk).1; rw [(ow_nar k hk).2] at h9; exact h9) (fun t ht hW => ⟨_, rfl, rfl, ht⟩) (fun _ h => absurd h List.not_mem_nil) dJ1_charAt_3b067_14 hlocks
theorem scJ0_charAt_5068e {k : Nat} (hk : k < 121) : SC l cy B0 ka va yJ0_charAt_5068e cJ0_charAt_5068e 2 (some .char) ({ frames := 3, cells := 0, slots := 0, locals := 80 }) [.ref ka, .int (nI k)] (owB.getD k 0) := by
  refine mt_ofWF (cc := cJ0_charAt_5068e) (maxL := 2) (ret := (some .char)) (by decide +kernel) rfl ?_
  intro p e s m args below meth c s₁ B hml hv
  obtain ⟨rfl, hE⟩ := hv
  have hx := B.exec
  have hb := B.bytes
  have hr := B.returns
  have hlocks := B.notSynchronized
  have hts0 := atoms_spec (ws := .code yJ0_charAt_5068e cJ0_charAt_5068e 2 (some .char) :: lw_g) B.pre
  have hts : ∀ w ∈ lw_g, w.before [.ref ka, .int (nI k)].toArray s = true := fun w hw => hts0 w (List.mem_cons_of_mem _ hw)
  have hown : s.vm.findClass yJ0_charAt_5068e.cls = some m.cls := findClass_of_methodNamed B.named
  have hS : va_S (fun q => B0 ≤ q) s.heap s.heap [] := va_S.rf
  have hl := lv_entry [.ref ka, .int (nI k)] (n := 2) (Nat.le_of_ble_eq_true rfl)
  rw [lg_entry_eq]
  generalize (lg_sl [.ref ka, .int (nI k)] ++ List.replicate (2 - (lg_sl [.ref ka, .int (nI k)]).length) Slot.unset).toArray = ls at hl ⊢
  refine lv_aload_n hx hb dJ0_charAt_5068e_0 rfl (lv_at hl 0 rfl) ?_
  refine vp_callSi (W.runV (C := "java/lang/String") (As := []) (rest := []) ⟨hx, hb, hml, hown, hts⟩ (scJ0_isLatin1_aae02) ⟨callB_of 0 hts (gd_all mdJ0_isLatin1_aae02) rfl rfl rfl (hts _ w126) (hts _ w309) mdJ0_isLatin1_aae02.2.2.1 ⟨(Nat.le_of_ble_eq_true rfl), (Nat.le_of_ble_eq_true rfl)⟩, hts _ w310, hts _ w311⟩ ⟨SC_blind, vk_recv hE.2.2.2.1 (i := 0) (by decide) hS, fun U hU hW => ⟨rfl, EX.st hW (fun a h1 h2 => by rw [hU]) hE⟩⟩ rfl rfl hl.1 rfl (lv_room (Nat.le_of_ble_eq_true rfl)) dJ0_charAt_5068e_1 ⟨Nat.zero_le _, Nat.zero_le _⟩) (fun r_ hr_ => ?_)
  subst hr_
  refine lv_if_eq (tgt := 16) hx hb dJ0_charAt_5068e_4 (by decide) (fun h => absurd h (by decide)) (fun _ => ?_)
  refine lv_aload_n hx hb dJ0_charAt_5068e_7 rfl (lv_at hl 0 rfl) ?_
  refine vk_getf hx hb (hE.2.2.2.1.1 0 (by decide)).2.2.1 hS hown (hts _ w1884) (fun _ h => h) dJ0_charAt_5068e_8 ?_
  refine lv_iload_n hx hb dJ0_charAt_5068e_11 rfl (lv_at hl 1 rfl) ?_
  refine vp_callSi (W.runS (As := [.ref va, .int (nI k)]) (rest := []) ⟨hx, hb, hml, hown, hts⟩ (scJ1_charAt_3b067 hk) ⟨callB_of 2 hts (gd_all mdJ1_charAt_3b067) rfl rfl rfl (hts _ w127) (hts _ w313) mdJ1_charAt_3b067.2.2.1 ⟨(Nat.le_of_ble_eq_true rfl), (Nat.le_of_ble_eq_true rfl)⟩, hts _ w314⟩ ⟨SC_blind, fun U hU hW => ⟨rfl, EX.st hW (fun a h1 h2 => by rw [hU]) hE⟩⟩ rfl rfl hl.1 rfl (lv_room (Nat.le_of_ble_eq_true rfl)) dJ0_charAt_5068e_12 ⟨Nat.zero_le _, Nat.zero_le _⟩) (fun r_ hr_ => ?_)
  subst hr_
  exact W.zret (v := owB.getD k 0) (ty := .char) hx hb hr (by have h9 := (ow_nar k hk).1; rw [(ow_nar k hk).2] at h9; exact h9) (fun t ht hW => ⟨_, rfl, rfl, ht⟩) (fun _ h => absurd h List.not_mem_nil) dJ0_charAt_5068e_15 hlocks
end STR
end
section
theorem brw0 : (okW 296 (Cond.instanceMethod ⟨"java/lang/String", "length", "()I"⟩) && (okW 297 (Cond.selects "java/lang/String" ⟨"java/lang/String", "length", "()I"⟩ ⟨"java/lang/String", "length", "()I"⟩) && (okW 306 (Cond.instanceMethod ⟨"java/lang/String", "charAt", "(I)C"⟩) && (okW 307 (Cond.selects "java/lang/String" ⟨"java/lang/String", "charAt", "(I)C"⟩ ⟨"java/lang/String", "charAt", "(I)C"⟩) && (true))))) = true := by decide +kernel
theorem w296 : Cond.instanceMethod ⟨"java/lang/String", "length", "()I"⟩ ∈ lw_g := okW_g (an1 brw0)
theorem w297 : Cond.selects "java/lang/String" ⟨"java/lang/String", "length", "()I"⟩ ⟨"java/lang/String", "length", "()I"⟩ ∈ lw_g := okW_g (an1 (an2 brw0))
theorem w306 : Cond.instanceMethod ⟨"java/lang/String", "charAt", "(I)C"⟩ ∈ lw_g := okW_g (an1 (an2 (an2 brw0)))
theorem w307 : Cond.selects "java/lang/String" ⟨"java/lang/String", "charAt", "(I)C"⟩ ⟨"java/lang/String", "charAt", "(I)C"⟩ ∈ lw_g := okW_g (an1 (an2 (an2 (an2 brw0))))
theorem brw1 : (wdC 298 ⟨"java/lang/String", "length", "()I"⟩ cJ0_length_8abf5 1 (some .int) && (wdC 308 ⟨"java/lang/String", "charAt", "(I)C"⟩ cJ0_charAt_5068e 2 (some .char) && (true))) = true := by decide +kernel
theorem w298 : Cond.code ⟨"java/lang/String", "length", "()I"⟩ cJ0_length_8abf5 1 (some .int) ∈ lw_g := wdC_g (an1 brw1)
theorem w308 : Cond.code ⟨"java/lang/String", "charAt", "(I)C"⟩ cJ0_charAt_5068e 2 (some .char) ∈ lw_g := wdC_g (an1 (an2 brw1))
theorem mdJ0_charAt_5068e : MD yJ0_charAt_5068e cJ0_charAt_5068e 2 (some .char) 1 := ⟨w308, w126, by decide +kernel, by decide⟩
theorem mdJ0_length_8abf5 : MD yJ0_length_8abf5 cJ0_length_8abf5 1 (some .int) 0 := ⟨w298, w126, by decide +kernel, by decide⟩
def L0 : Lay := (fun _ => 99, fun _ => [], fun _ => 0, fun _ => 0, fun _ => 99, 0)
theorem L0ok : LOK L0 := fun _ => Nat.zero_le _
section
variable {p : Program} {l : Launch} {e : Env} {s : State} {m : MethodId} {args : Array Value} {below : List Frame} {meth : Method} {c : Code} {D : va_G} {cy : Nat → ClassId} {ad : Nat → Nat} {dd : Nat}
theorem tbX8_fillUp_4z (n0 : Nat) (hO : OKc p (rmL 1) s m args meth c L0 D cy ad cX8_fillUp RX8 4 1 (some .int)) (k4 : Int32 → Int32 → Mem → Option (Int32 × Mem)) (hk4 : ∀ (x2 : Int32) (x3 : Int32) (M : Mem), BL p l e (rmL 1) s m args below meth c L0 D cy ad 4 (QI L0 D cy ad) 4 [(2, .int x2), (3, .int x3)] [] M (k4 x2 x3 M)) (x2 : Int32) (x3 : Int32) (M : Mem) : BL p l e (rmL 1) s m args below meth c L0 D cy ad 4 (QI L0 D cy ad) 4 [(2, .int x2), (3, .int x3)] [] M (bX8_fillUp_4 n0 k4 x2 x3 M) := by
  unfold bX8_fillUp_4
  refine b_iload_n hO dX8_fillUp_4 1 rfl rfl ?_
  refine b_bipush hO dX8_fillUp_5 ic_b_6 ?_
  refine b_icmp_ge hO dX8_fillUp_7 (tgt := 21) (by decide) ?_ ?_
  · refine b_iload_n hO dX8_fillUp_21 0 rfl rfl ?_
    exact b_iret hO dX8_fillUp_22
  · refine b_iload_n hO dX8_fillUp_10 0 rfl rfl ?_
    refine b_bipush hO dX8_fillUp_11 ic_b_27 ?_
    refine b_imul hO dX8_fillUp_13 ?_
    refine b_topI (fun x2_14 => ?_)
    refine b_istore_n hO dX8_fillUp_14 rfl (by decide) (lv' := [(2, .int _), (3, .int _)]) rfl ?_
    refine b_iinc hO dX8_fillUp_15 1 rfl ic_i_1 (by decide) (lv' := [(3, .int _), (2, .int _)]) rfl ?_
    refine b_goto hO dX8_fillUp_18 (tgt := 4) (by decide) ?_
    refine b_sub [1, 0] rfl ?_
    exact hk4 _ _ _
theorem lX8_fillUp_4z (n0 : Nat) (hO : OKc p (rmL 1) s m args meth c L0 D cy ad cX8_fillUp RX8 4 1 (some .int)) : ∀ (w : Nat) (x2 : Int32) (x3 : Int32) (M : Mem), BL p l e (rmL 1) s m args below meth c L0 D cy ad 4 (QI L0 D cy ad) 4 [(2, .int x2), (3, .int x3)] [] M (loopN (bX8_fillUp_4 n0) (fun _ _ _ => none) w x2 x3 M) := by
  intro w
  induction w with
  | zero =>
    intros
    exact b_none
  | succ w ih =>
    intro x2 x3 M
    exact tbX8_fillUp_4z n0 hO _ ih x2 x3 M
theorem tfX8_fillUp_4z (n0 : Nat) (hO : OKc p (rmL 1) s m args meth c L0 D cy ad cX8_fillUp RX8 4 1 (some .int)) (x2 : Int32) (x3 : Int32) (M : Mem) : BL p l e (rmL 1) s m args below meth c L0 D cy ad 4 (QI L0 D cy ad) 4 [(2, .int x2), (3, .int x3)] [] M (fX8_fillUp_4 n0 x2 x3 M) := lX8_fillUp_4z n0 hO n0 x2 x3 M
theorem tfX8_fillUpz (n0 : Nat) (hO : OKc p (rmL 1) s m args meth c L0 D cy ad cX8_fillUp RX8 4 1 (some .int)) (x0 : Int32) (x1 : Int32) (M : Mem) : BL p l e (rmL 1) s m args below meth c L0 D cy ad 4 (QI L0 D cy ad) 0 [(0, .int x0), (1, .int x1)] [] M (fX8_fillUp n0 x0 x1 M) := by
  unfold fX8_fillUp
  refine b_iload_n hO dX8_fillUp_0 0 rfl rfl ?_
  refine b_istore_n hO dX8_fillUp_1 rfl (by decide) (lv' := [(2, .int _), (0, .int _), (1, .int _)]) rfl ?_
  refine b_iload_n hO dX8_fillUp_2 2 rfl rfl ?_
  refine b_istore_n hO dX8_fillUp_3 rfl (by decide) (lv' := [(3, .int _), (2, .int _), (0, .int _), (1, .int _)]) rfl ?_
  refine b_sub [1, 0] rfl ?_
  exact tfX8_fillUp_4z n0 hO _ _ _
theorem ctX8_fillUpz (n0 : Nat) (hI : Inj L0 ad) (x0 : Int32) (x1 : Int32) (M : Mem) : CT l L0 D cy ad yX8_fillUp cX8_fillUp 4 (some .int) 1 (QI L0 D cy ad) [.int x0, .int x1] M (fX8_fillUp n0 x0 x1 M) :=
  CT.mk L0ok hI (by decide) (Nat.le_of_ble_eq_true rfl) (fun hO => tfX8_fillUpz n0 hO x0 x1 M)
end
def M00 : Mem := (fun _ => 0, fun _ _ => 0, fun _ => 0, fun _ => 0, fun _ _ => 0)
section TROWS
variable {p : Program} {l : Launch} {e : Env} {R : Room} {s : State} {m : MethodId} {args : Array Value} {below : List Frame} {meth : Method} {c : Code} {D : va_G} {cy : Nat → ClassId} {A : Nat → Prop} {nL : Nat} {Q : State → Prop} {cc : ByteArray} {own : String}
variable {B0 ka va : Nat} {pc : Nat} {lv : List (Nat × Value)} {st : List Value} {ws : va_W} {cells slots : Nat}
theorem k_ldcS (hO : OKd p R s m args meth c D cy B0 ka va A cc own nL) (hown : own = "PalmHours$Tokens") (hdg : decode cc pc = .ok (.ldc 41, 2)) (K : BC p l e R s m args below meth c D A nL Q (pc + 2) lv (.ref ka :: st) ws cells slots) : BC p l e R s m args below meth c D A nL Q pc lv st ws cells slots := fun H locs ls hP hD hS hl => va_ldcS (own := own) (tx := owT) hO.1 hO.2.1 hO.2.2.2.1 (by rw [hown]; exact hO.2.2.2.2.2.2.2.2.2.2.1.2.2.1) hdg (K H locs ls hP hD hS hl)
/-- the String's cells, as they are now -/
theorem k_E (hO : OKd p R s m args meth c D cy B0 ka va A cc own nL) {H : Heap} {locs : List Loc} (hS : va_S A s.heap H locs) : va_S (fun q => B0 ≤ q) s.heap H locs := ⟨hS.1, fun q h1 h2 => hS.2.1 q h1 (fun z => h2 (hO.2.2.2.2.2.2.2.2.2.2.2 q z)), fun x hx => hO.2.2.2.2.2.2.2.2.2.2.2 _ (hS.2.2 x hx)⟩
theorem k_strlen (hO : OKd p R s m args meth c D cy B0 ka va A cc own nL)  (hlk : Cond.methodLink own 43 yJ0_length_8abf5 ∈ lw_g) (hf : 1 + 1 ≤ R.frames) (hlo : 8 + (1 + 11) + 20 ≤ R.locals) (hc0 : cells ≤ R.cells) (hs0 : slots ≤ R.slots) (hroom : (st.map fun v => v.category).sum ≤ 8) (hdg : decode cc pc = .ok (.invokevirtual 43, 3)) (K : BC p l e R s m args below meth c D A nL Q (pc + 3) lv (.int 121 :: st) ws cells slots) : BC p l e R s m args below meth c D A nL Q pc lv (.ref ka :: st) ws cells slots := fun H locs ls hP hD hS hl => by
  refine vp_callSi (W.runV (C := "java/lang/String") (As := []) (rest := st) ⟨hO.1, hO.2.1, hO.2.2.1, hO.2.2.2.1, hO.2.2.2.2.1⟩ (scJ0_length_8abf5) ⟨callB_of 0 hO.2.2.2.2.1 (gd_all mdJ0_length_8abf5) rfl rfl rfl (hO.2.2.2.2.1 _ w126) (hO.2.2.2.2.1 _ hlk) mdJ0_length_8abf5.2.2.1 ⟨hf, hlo⟩, hO.2.2.2.2.1 _ w296, hO.2.2.2.2.1 _ w297⟩ ⟨SC_blind, vk_recv hO.2.2.2.2.2.2.2.2.2.2.1.2.2.2.1 (i := 0) (by decide) (k_E hO hS), fun U hU hW => ⟨rfl, EX.st hW (fun a h1 h2 => by rw [hU]; exact (k_E hO hS).2.1 a h1 h2) hO.2.2.2.2.2.2.2.2.2.2.1⟩⟩ rfl rfl hl.1 rfl (lv_room hroom) hdg ⟨hc0, hs0⟩) (fun r_ hr_ => ?_)
  subst hr_
  exact K H locs ls hP hD hS hl
theorem k_charAt (hO : OKd p R s m args meth c D cy B0 ka va A cc own nL) {k : Nat} {i v : Int32} (hk : k < 121) (hi : nI k = i) (hv : owB.getD k 0 = v) (hlk : Cond.methodLink own 49 yJ0_charAt_5068e ∈ lw_g) (hf : 3 + 1 ≤ R.frames) (hlo : 8 + (2 + 11) + 80 ≤ R.locals) (hc0 : cells ≤ R.cells) (hs0 : slots ≤ R.slots) (hroom : (st.map fun v => v.category).sum ≤ 8) (hdg : decode cc pc = .ok (.invokevirtual 49, 3)) (K : BC p l e R s m args below meth c D A nL Q (pc + 3) lv (.int v :: st) ws cells slots) : BC p l e R s m args below meth c D A nL Q pc lv (.int i :: .ref ka :: st) ws cells slots := fun H locs ls hP hD hS hl => by
  refine vp_callSi (W.runV (C := "java/lang/String") (As := [.int i]) (rest := st) ⟨hO.1, hO.2.1, hO.2.2.1, hO.2.2.2.1, hO.2.2.2.2.1⟩ ((show SC l cy B0 ka va yJ0_charAt_5068e cJ0_charAt_5068e 2 (some .char) _ [.ref ka, .int i] v by rw [← hi, ← hv]; exact scJ0_charAt_5068e hk)) ⟨callB_of 1 hO.2.2.2.2.1 (gd_all mdJ0_charAt_5068e) rfl rfl rfl (hO.2.2.2.2.1 _ w126) (hO.2.2.2.2.1 _ hlk) mdJ0_charAt_5068e.2.2.1 ⟨hf, hlo⟩, hO.2.2.2.2.1 _ w306, hO.2.2.2.2.1 _ w307⟩ ⟨SC_blind, vk_recv hO.2.2.2.2.2.2.2.2.2.2.1.2.2.2.1 (i := 0) (by decide) (k_E hO hS), fun U hU hW => ⟨rfl, EX.st hW (fun a h1 h2 => by rw [hU]; exact (k_E hO hS).2.1 a h1 h2) hO.2.2.2.2.2.2.2.2.2.2.1⟩⟩ rfl rfl hl.1 rfl (lv_room hroom) hdg ⟨hc0, hs0⟩) (fun r_ hr_ => ?_)
  subst hr_
  exact K H locs ls hP hD hS hl
theorem L0_P {M : Mem} {H : Heap} {ad : Nat → Nat} : WD L0 D cy ad M H := ⟨fun k q h => by simp [wl, L0, Lay.nn] at h, fun k h => absurd h (by show ¬ (99 : Nat) < 99; decide)⟩
theorem k_fill (hO : OKd p R s m args meth c D cy B0 ka va A cc own nL) {x y v : Int32} (hv : fX8_fillUp 10 x y M00 = some (v, M00)) (hlk : Cond.methodLink own 53 yX8_fillUp ∈ lw_g) (hf : 1 + 1 ≤ R.frames) (hlo : 8 + (4 + 11) + 64 ≤ R.locals) (hc0 : cells ≤ R.cells) (hs0 : slots ≤ R.slots) (hroom : (st.map fun v => v.category).sum ≤ 8) (hdg : decode cc pc = .ok (.invokestatic 53, 3)) (K : BC p l e R s m args below meth c D A nL Q (pc + 3) lv (.int v :: st) ws cells slots) : BC p l e R s m args below meth c D A nL Q pc lv (.int y :: .int x :: st) ws cells slots := fun H locs ls hP hD hS hl => by
  have hI : Inj L0 (fun _ => 0) := fun i j h => absurd h (Nat.not_lt_zero _)
  refine va_calli (va_runS (As := [.int x, .int y]) (rest := st) ⟨hO.1, hO.2.1, hO.2.2.1, hO.2.2.2.1, hO.2.2.2.2.1⟩ (ctX8_fillUpz (l := l) (D := D) (cy := cy) 10 hI x y M00 _ hv) ⟨callB_of 2 hO.2.2.2.2.1 (gd_all mdX8_fillUp) rfl rfl rfl (hO.2.2.2.2.1 _ w125) (hO.2.2.2.2.1 _ hlk) mdX8_fillUp.2.2.1 ⟨hf, hlo⟩, hO.2.2.2.2.1 _ w344⟩ ⟨WT_blind, fun U hU hw => ⟨rfl, L0_P, va_K.moved hw.alike hO.2.2.2.2.2.1⟩⟩ rfl rfl hl.1 rfl (lv_room hroom) hdg ⟨hc0, hs0⟩) hS (fun q _ h => by obtain ⟨j, hj, -⟩ := h; exact absurd hj (Nat.not_lt_zero _)) (fun q h => by obtain ⟨j, hj, -⟩ := h; exact absurd hj (Nat.not_lt_zero _)) (fun r u t H1 locs1 ht hvm hw hB hz hk hS1 => ?_)
  cases hw
  have hkeep : ∀ q : Nat, q < H.size → H1[q]? = H[q]? := fun q hq => hk q hq (fun h => by obtain ⟨j, hj, -⟩ := h; exact absurd hj (Nat.not_lt_zero _))
  exact K H1 locs1 ls (hP.kept (fun k9 x9 hx9 => hkeep x9.1 ((hP k9 x9 hx9).lt))) hD hS1 hl
end TROWS
end
