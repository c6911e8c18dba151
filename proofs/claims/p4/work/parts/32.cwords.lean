theorem ic_b_110 : (Int8.ofInt (110)).toInt32 = (110 : Int32) := by decide
theorem ic_b_22 : (Int8.ofInt (22)).toInt32 = (22 : Int32) := by decide
theorem ic_b_50 : (Int8.ofInt (50)).toInt32 = (50 : Int32) := by decide
theorem ic_s_1760 : (Int16.ofInt (1760)).toInt32 = (1760 : Int32) := by decide
theorem ic_s_1800 : (Int16.ofInt (1800)).toInt32 = (1800 : Int32) := by decide
theorem ic_s_287 : (Int16.ofInt (287)).toInt32 = (287 : Int32) := by decide
theorem ic_s_3200 : (Int16.ofInt (3200)).toInt32 = (3200 : Int32) := by decide
theorem ic_s_500 : (Int16.ofInt (500)).toInt32 = (500 : Int32) := by decide
theorem bcw0 : (okW 175 (Cond.instanceMethod ⟨"PalmHours$Formula", "<init>", "()V"⟩) && (true)) = true := by decide +kernel
theorem w175 : Cond.instanceMethod ⟨"PalmHours$Formula", "<init>", "()V"⟩ ∈ lw_g := okW_g (an1 bcw0)
theorem bcw1 : (wdC 176 ⟨"PalmHours$Formula", "<init>", "()V"⟩ cX0_init 1 none && (true)) = true := by decide +kernel
theorem w176 : Cond.code ⟨"PalmHours$Formula", "<init>", "()V"⟩ cX0_init 1 none ∈ lw_g := wdC_g (an1 bcw1)
theorem mdX0_init : MD yX0_init cX0_init 1 none 0 := ⟨w176, w123, by decide +kernel, by decide⟩
theorem bcw2 : (okW 177 (Cond.methodLink "PalmHours$Formula" 3 objectInit) && (okW 145 (Cond.instanceMethod objectInit) && (okW 165 (Cond.arrayClass .int) && (okW 152 (Cond.methodLink "PalmHours$Tape" 3 objectInit) && (okW 171 (Cond.methodLink "PalmHours$Town" 3 objectInit) && (okW 172 (Cond.classLink "PalmHours$Town" 64 "PalmHours$Formula") && (okW 173 (Cond.instantiable "PalmHours$Formula" 2) && (true)))))))) = true := by decide +kernel
theorem xw177 : Cond.methodLink "PalmHours$Formula" 3 objectInit ∈ lw_g := okW_g (an1 bcw2)
theorem xw145 : Cond.instanceMethod objectInit ∈ lw_g := okW_g (an1 (an2 bcw2))
theorem xw165 : Cond.arrayClass .int ∈ lw_g := okW_g (an1 (an2 (an2 bcw2)))
theorem xw152 : Cond.methodLink "PalmHours$Tape" 3 objectInit ∈ lw_g := okW_g (an1 (an2 (an2 (an2 bcw2))))
theorem xw171 : Cond.methodLink "PalmHours$Town" 3 objectInit ∈ lw_g := okW_g (an1 (an2 (an2 (an2 (an2 bcw2)))))
theorem xw172 : Cond.classLink "PalmHours$Town" 64 "PalmHours$Formula" ∈ lw_g := okW_g (an1 (an2 (an2 (an2 (an2 (an2 bcw2))))))
theorem xw173 : Cond.instantiable "PalmHours$Formula" 2 ∈ lw_g := okW_g (an1 (an2 (an2 (an2 (an2 (an2 (an2 bcw2)))))))
theorem bcw3 : (wdC 146 objectInit ⟨#[0xb1]⟩ 1 none && (true)) = true := by decide +kernel
theorem xw146 : Cond.code objectInit ⟨#[0xb1]⟩ 1 none ∈ lw_g := wdC_g (an1 bcw3)
theorem nlX9_64 : NL RX9 64 0 RX0 TX0 2 tyX0 := ⟨rfl, inX0, xw172, xw173, w123, tyX0_ok⟩
theorem fsX0 : ∀ j, j < 2 → defaultValue (tyX0 j) = vp_V [.null, .int 0] j := fun j hj => by rcases (show j = 0 ∨ j = 1 by omega) with rfl | rfl <;> rfl
theorem bcw4 : (okW 388 (Cond.methodLink "PalmHours$Phrases" 3 objectInit) && (okW 415 (Cond.methodLink "PalmHours$Palm" 3 objectInit) && (okW 451 (Cond.methodLink "PalmHours$State" 3 objectInit) && (okW 489 (Cond.methodLink "PalmHours$Past" 3 objectInit) && (okW 490 (Cond.classLink "PalmHours$Past" 11 "[[I") && (okW 508 (Cond.methodLink "PalmHours$Walks" 3 objectInit) && (okW 521 (Cond.methodLink "PalmHours$Seen" 3 objectInit) && (okW 522 (Cond.classLink "PalmHours$Seen" 25 "[[I") && (okW 1241 (Cond.methodLink "PalmHoursModel" 1 objectInit) && (okW 1447 (Cond.arrayClass .long) && (okW 1448 (Cond.arrayClass .boolean) && (true)))))))))))) = true := by decide +kernel
theorem xw388 : Cond.methodLink "PalmHours$Phrases" 3 objectInit ∈ lw_g := okW_g (an1 bcw4)
theorem xw415 : Cond.methodLink "PalmHours$Palm" 3 objectInit ∈ lw_g := okW_g (an1 (an2 bcw4))
theorem xw451 : Cond.methodLink "PalmHours$State" 3 objectInit ∈ lw_g := okW_g (an1 (an2 (an2 bcw4)))
theorem xw489 : Cond.methodLink "PalmHours$Past" 3 objectInit ∈ lw_g := okW_g (an1 (an2 (an2 (an2 bcw4))))
theorem xw490 : Cond.classLink "PalmHours$Past" 11 "[[I" ∈ lw_g := okW_g (an1 (an2 (an2 (an2 (an2 bcw4)))))
theorem xw508 : Cond.methodLink "PalmHours$Walks" 3 objectInit ∈ lw_g := okW_g (an1 (an2 (an2 (an2 (an2 (an2 bcw4))))))
theorem xw521 : Cond.methodLink "PalmHours$Seen" 3 objectInit ∈ lw_g := okW_g (an1 (an2 (an2 (an2 (an2 (an2 (an2 bcw4)))))))
theorem xw522 : Cond.classLink "PalmHours$Seen" 25 "[[I" ∈ lw_g := okW_g (an1 (an2 (an2 (an2 (an2 (an2 (an2 (an2 bcw4))))))))
theorem xw1241 : Cond.methodLink "PalmHoursModel" 1 objectInit ∈ lw_g := okW_g (an1 (an2 (an2 (an2 (an2 (an2 (an2 (an2 (an2 bcw4)))))))))
theorem xw1447 : Cond.arrayClass .long ∈ lw_g := okW_g (an1 (an2 (an2 (an2 (an2 (an2 (an2 (an2 (an2 (an2 bcw4))))))))))
theorem xw1448 : Cond.arrayClass .boolean ∈ lw_g := okW_g (an1 (an2 (an2 (an2 (an2 (an2 (an2 (an2 (an2 (an2 (an2 bcw4)))))))))))
