theorem ic_b_110 : (Int8.ofInt (110)).toInt32 = (110 : Int32) := by decide
theorem ic_b_22 : (Int8.ofInt (22)).toInt32 = (22 : Int32) := by decide
theorem ic_b_50 : (Int8.ofInt (50)).toInt32 = (50 : Int32) := by decide
theorem ic_s_1760 : (Int16.ofInt (1760)).toInt32 = (1760 : Int32) := by decide
theorem ic_s_1800 : (Int16.ofInt (1800)).toInt32 = (1800 : Int32) := by decide
theorem ic_s_287 : (Int16.ofInt (287)).toInt32 = (287 : Int32) := by decide
theorem ic_s_3200 : (Int16.ofInt (3200)).toInt32 = (3200 : Int32) := by decide
theorem ic_s_500 : (Int16.ofInt (500)).toInt32 = (500 : Int32) := by decide
theorem w175 : Cond.instanceMethod ⟨"PalmHours$Formula", "<init>", "()V"⟩ ∈ lw_g := mem_g (List.mem_of_getElem? (i := 175) (by decide +kernel)) (by decide +kernel)
theorem w176 : Cond.code ⟨"PalmHours$Formula", "<init>", "()V"⟩ cX0_init 1 none ∈ lw_g := mem_g (List.mem_of_getElem? (i := 176) (by decide +kernel)) (by decide +kernel)
theorem mdX0_init : MD yX0_init cX0_init 1 none 0 := ⟨w176, w123, by decide +kernel, by decide⟩
theorem xw177 : Cond.methodLink "PalmHours$Formula" 3 objectInit ∈ lw_g := mem_g (List.mem_of_getElem? (i := 177) (by decide +kernel)) (by decide +kernel)
theorem xw145 : Cond.instanceMethod objectInit ∈ lw_g := mem_g (List.mem_of_getElem? (i := 145) (by decide +kernel)) (by decide +kernel)
theorem xw146 : Cond.code objectInit ⟨#[0xb1]⟩ 1 none ∈ lw_g := mem_g (List.mem_of_getElem? (i := 146) (by decide +kernel)) (by decide +kernel)
theorem xw165 : Cond.arrayClass .int ∈ lw_g := mem_g (List.mem_of_getElem? (i := 165) (by decide +kernel)) (by decide +kernel)
theorem xw152 : Cond.methodLink "PalmHours$Tape" 3 objectInit ∈ lw_g := mem_g (List.mem_of_getElem? (i := 152) (by decide +kernel)) (by decide +kernel)
theorem xw171 : Cond.methodLink "PalmHours$Town" 3 objectInit ∈ lw_g := mem_g (List.mem_of_getElem? (i := 171) (by decide +kernel)) (by decide +kernel)
theorem xw172 : Cond.classLink "PalmHours$Town" 64 "PalmHours$Formula" ∈ lw_g := mem_g (List.mem_of_getElem? (i := 172) (by decide +kernel)) (by decide +kernel)
theorem xw173 : Cond.instantiable "PalmHours$Formula" 2 ∈ lw_g := mem_g (List.mem_of_getElem? (i := 173) (by decide +kernel)) (by decide +kernel)
theorem nlX9_64 : NL RX9 64 0 RX0 TX0 2 tyX0 := ⟨rfl, inX0, xw172, xw173, w123, tyX0_ok⟩
theorem fsX0 : ∀ j, j < 2 → defaultValue (tyX0 j) = vp_V [.null, .int 0] j := fun j hj => by rcases (show j = 0 ∨ j = 1 by omega) with rfl | rfl <;> rfl
theorem xw388 : Cond.methodLink "PalmHours$Phrases" 3 objectInit ∈ lw_g := mem_g (List.mem_of_getElem? (i := 388) (by decide +kernel)) (by decide +kernel)
theorem xw415 : Cond.methodLink "PalmHours$Palm" 3 objectInit ∈ lw_g := mem_g (List.mem_of_getElem? (i := 415) (by decide +kernel)) (by decide +kernel)
theorem xw451 : Cond.methodLink "PalmHours$State" 3 objectInit ∈ lw_g := mem_g (List.mem_of_getElem? (i := 451) (by decide +kernel)) (by decide +kernel)
theorem xw489 : Cond.methodLink "PalmHours$Past" 3 objectInit ∈ lw_g := mem_g (List.mem_of_getElem? (i := 489) (by decide +kernel)) (by decide +kernel)
theorem xw490 : Cond.classLink "PalmHours$Past" 11 "[[I" ∈ lw_g := mem_g (List.mem_of_getElem? (i := 490) (by decide +kernel)) (by decide +kernel)
theorem xw508 : Cond.methodLink "PalmHours$Walks" 3 objectInit ∈ lw_g := mem_g (List.mem_of_getElem? (i := 508) (by decide +kernel)) (by decide +kernel)
theorem xw521 : Cond.methodLink "PalmHours$Seen" 3 objectInit ∈ lw_g := mem_g (List.mem_of_getElem? (i := 521) (by decide +kernel)) (by decide +kernel)
theorem xw522 : Cond.classLink "PalmHours$Seen" 25 "[[I" ∈ lw_g := mem_g (List.mem_of_getElem? (i := 522) (by decide +kernel)) (by decide +kernel)
theorem xw1241 : Cond.methodLink "PalmHoursModel" 1 objectInit ∈ lw_g := mem_g (List.mem_of_getElem? (i := 1241) (by decide +kernel)) (by decide +kernel)
theorem xw1447 : Cond.arrayClass .long ∈ lw_g := mem_g (List.mem_of_getElem? (i := 1447) (by decide +kernel)) (by decide +kernel)
theorem xw1448 : Cond.arrayClass .boolean ∈ lw_g := mem_g (List.mem_of_getElem? (i := 1448) (by decide +kernel)) (by decide +kernel)
