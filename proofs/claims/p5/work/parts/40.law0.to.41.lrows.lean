section
/-! THE CLAIM OUT OF ONE WALK OF THE LAW'S BODY. Your part is whole_start (and what it stands on); all else here is the same for every law, but numbers. -/
def R_law : String := "PalmHoursLaw"
def lw_P (b : Addr) (xs : List Int32) (args : Array Value) (s : State) : Prop := args = #[.ref b] ∧ s.IntsAt b xs ∧ xs.length ≤ 3072 ∧ (Jvm.Cond.and given_1 narrow_1).before args s = true
def lw_Q (_ : Array Value) (s : State) (o : Outcome) (t : State) : Prop := o = .returned (some (.int 1)) ∧ Framed s o t [] 600000 7302250
def lw_Z (below : List Frame) (a : Array Value) (s : State) : State → Prop := fun t => ∃ o, t.status = .running ∧ Ended t below o ∧ lw_Q a s o t
/-- the law's own end, with 1 on the stack, nothing written that was there before, its room as the claim has it -/
theorem lw_ret {p : Program} {l : Launch} {e : Env} {s : State} {m : MethodId} {below : List Frame} {meth : Method} {c : Code} {b : Nat} (hx : p.tables.exec = Jvm.exec) (hb : c.code = code) (hr : meth.sig.returnType = ret) (hlocks : meth.locks = false) {pc : Nat} {H : Heap} {ls : Array Slot} (hdg : decode code pc = .ok (.ireturn, 1)) : W p l e room_1 s m #[Value.ref b] below meth c H [] 600000 7302250 (lw_Z below #[Value.ref b] s) (F0 m pc ls [.int 1]) := by
  intro T hT X
  obtain ⟨fs, hret, hrun, hended, hW, hframe⟩ := X.leave (v := some (.int 1)) (hlocks := hlocks) (fun h => by rw [hr] at h; cases h)
  have hmeth' : T.vm.method? m = some meth := X.method'
  refine ⟨T.setFrames fs, ?_, .returned (some (.int 1)), hrun, hended, rfl, ⟨_, rfl⟩, hW, hframe⟩
  jvm_step X.here [X.here.top, hx, hb, hdg, hmeth', hr, ret, narrow_b1]
  (try refine ⟨rfl, ?_⟩); (try refine ⟨rfl, ?_⟩)
  first | (intro acts; rw [hret _ acts rfl rfl rfl]) | rw [hret _ _ rfl rfl rfl]
  exact Steps.refl _
/-- what holds at the law's entry: the machine, the code, the tables' words (any of lw_tbl by 'hts w (by decide +kernel)'), the script of L ints xs at the cell b, what the Statement gives of the start (any of its parts by flat_of_before) -/
def lw_At (p : Program) (s : State) (m : MethodId) (meth : Method) (c : Code) (b L : Nat) (xs : Nat → Int32) : Prop :=
  p.tables.exec = Jvm.exec ∧ c.code = code ∧ meth.sig.returnType = ret ∧ c.maxLocals = 4 ∧ s.vm.findClass R_law = some m.cls ∧ (∀ w ∈ lw_tbl, w.before #[Value.ref b] s = true) ∧ va_X b L xs s s.heap ∧ b < s.heap.size ∧ meth.locks = false ∧ (Jvm.Cond.and given_1 narrow_1).before #[Value.ref b] s = true
end
section
def b41wl0 : List (Nat × Cond) := [(663, Cond.methodLink "PalmHoursLaw" 13 ⟨"PalmHours", "feed", "(IIIII)I"⟩), (664, Cond.instanceMethod ⟨"PalmHours", "feed", "(IIIII)I"⟩), (665, Cond.selects "PalmHours" ⟨"PalmHours", "feed", "(IIIII)I"⟩ ⟨"PalmHours", "feed", "(IIIII)I"⟩), (666, Cond.code ⟨"PalmHours", "feed", "(IIIII)I"⟩ cX11_feed 6 (some .int)), (679, Cond.methodLink "PalmHoursLaw" 18 ⟨"PalmHours", "end", "(I)Z"⟩), (680, Cond.instanceMethod ⟨"PalmHours", "end", "(I)Z"⟩), (681, Cond.selects "PalmHours" ⟨"PalmHours", "end", "(I)Z"⟩ ⟨"PalmHours", "end", "(I)Z"⟩), (682, Cond.code ⟨"PalmHours", "end", "(I)Z"⟩ cX11_end 2 (some .boolean)), (683, Cond.methodLink "PalmHoursLaw" 23 ⟨"PalmHours", "town", "()I"⟩), (684, Cond.instanceMethod ⟨"PalmHours", "town", "()I"⟩), (685, Cond.selects "PalmHours" ⟨"PalmHours", "town", "()I"⟩ ⟨"PalmHours", "town", "()I"⟩), (686, Cond.code ⟨"PalmHours", "town", "()I"⟩ cX11_town 3 (some .int)), (904, Cond.methodLink "PalmHoursLaw" 28 ⟨"PalmHours", "fault", "(I)I"⟩), (905, Cond.instanceMethod ⟨"PalmHours", "fault", "(I)I"⟩), (906, Cond.selects "PalmHours" ⟨"PalmHours", "fault", "(I)I"⟩ ⟨"PalmHours", "fault", "(I)I"⟩), (907, Cond.code ⟨"PalmHours", "fault", "(I)I"⟩ cX11_fault 2 (some .int)), (908, Cond.methodLink "PalmHoursLaw" 33 ⟨"PalmHours", "has", "(I)I"⟩), (909, Cond.instanceMethod ⟨"PalmHours", "has", "(I)I"⟩), (910, Cond.selects "PalmHours" ⟨"PalmHours", "has", "(I)I"⟩ ⟨"PalmHours", "has", "(I)I"⟩), (911, Cond.code ⟨"PalmHours", "has", "(I)I"⟩ cX11_has 2 (some .int)), (920, Cond.methodLink "PalmHoursLaw" 37 ⟨"PalmHours", "letter", "(III)I"⟩), (921, Cond.instanceMethod ⟨"PalmHours", "letter", "(III)I"⟩), (922, Cond.selects "PalmHours" ⟨"PalmHours", "letter", "(III)I"⟩ ⟨"PalmHours", "letter", "(III)I"⟩), (923, Cond.code ⟨"PalmHours", "letter", "(III)I"⟩ cX11_letter 4 (some .int)), (936, Cond.methodLink "PalmHoursLaw" 42 ⟨"PalmHours", "thing", "(II)I"⟩), (937, Cond.instanceMethod ⟨"PalmHours", "thing", "(II)I"⟩), (938, Cond.selects "PalmHours" ⟨"PalmHours", "thing", "(II)I"⟩ ⟨"PalmHours", "thing", "(II)I"⟩), (939, Cond.code ⟨"PalmHours", "thing", "(II)I"⟩ cX11_thing 3 (some .int)), (940, Cond.methodLink "PalmHoursLaw" 47 ⟨"PalmHours", "corner", "(II)I"⟩), (941, Cond.instanceMethod ⟨"PalmHours", "corner", "(II)I"⟩), (942, Cond.selects "PalmHours" ⟨"PalmHours", "corner", "(II)I"⟩ ⟨"PalmHours", "corner", "(II)I"⟩), (943, Cond.code ⟨"PalmHours", "corner", "(II)I"⟩ cX11_corner 3 (some .int)), (954, Cond.methodLink "PalmHoursLaw" 51 ⟨"PalmHours", "doing", "(II)I"⟩), (955, Cond.instanceMethod ⟨"PalmHours", "doing", "(II)I"⟩), (956, Cond.selects "PalmHours" ⟨"PalmHours", "doing", "(II)I"⟩ ⟨"PalmHours", "doing", "(II)I"⟩), (957, Cond.code ⟨"PalmHours", "doing", "(II)I"⟩ cX11_doing 3 (some .int)), (958, Cond.methodLink "PalmHoursLaw" 55 ⟨"PalmHours", "later", "(II)I"⟩), (959, Cond.instanceMethod ⟨"PalmHours", "later", "(II)I"⟩), (960, Cond.selects "PalmHours" ⟨"PalmHours", "later", "(II)I"⟩ ⟨"PalmHours", "later", "(II)I"⟩), (961, Cond.code ⟨"PalmHours", "later", "(II)I"⟩ cX11_later 3 (some .int)), (979, Cond.methodLink "PalmHoursLaw" 59 ⟨"PalmHours", "when", "(I)I"⟩), (980, Cond.instanceMethod ⟨"PalmHours", "when", "(I)I"⟩), (981, Cond.selects "PalmHours" ⟨"PalmHours", "when", "(I)I"⟩ ⟨"PalmHours", "when", "(I)I"⟩), (982, Cond.code ⟨"PalmHours", "when", "(I)I"⟩ cX11_when 4 (some .int)), (983, Cond.methodLink "PalmHoursLaw" 63 ⟨"PalmHours", "alike", "(II)I"⟩), (984, Cond.instanceMethod ⟨"PalmHours", "alike", "(II)I"⟩), (985, Cond.selects "PalmHours" ⟨"PalmHours", "alike", "(II)I"⟩ ⟨"PalmHours", "alike", "(II)I"⟩), (986, Cond.code ⟨"PalmHours", "alike", "(II)I"⟩ cX11_alike 5 (some .int)), (987, Cond.methodLink "PalmHoursLaw" 67 ⟨"PalmHours", "plan", "(III)I"⟩), (988, Cond.instanceMethod ⟨"PalmHours", "plan", "(III)I"⟩), (989, Cond.selects "PalmHours" ⟨"PalmHours", "plan", "(III)I"⟩ ⟨"PalmHours", "plan", "(III)I"⟩), (990, Cond.code ⟨"PalmHours", "plan", "(III)I"⟩ cX11_plan 5 (some .int)), (1023, Cond.methodLink "PalmHoursLaw" 71 ⟨"PalmHours", "evening", "(II)I"⟩), (1024, Cond.instanceMethod ⟨"PalmHours", "evening", "(II)I"⟩), (1025, Cond.selects "PalmHours" ⟨"PalmHours", "evening", "(II)I"⟩ ⟨"PalmHours", "evening", "(II)I"⟩), (1026, Cond.code ⟨"PalmHours", "evening", "(II)I"⟩ cX11_evening 7 (some .int)), (1031, Cond.methodLink "PalmHoursLaw" 75 ⟨"PalmHours", "odds", "(III)J"⟩), (1032, Cond.instanceMethod ⟨"PalmHours", "odds", "(III)J"⟩), (1033, Cond.selects "PalmHours" ⟨"PalmHours", "odds", "(III)J"⟩ ⟨"PalmHours", "odds", "(III)J"⟩), (1034, Cond.code ⟨"PalmHours", "odds", "(III)J"⟩ cX11_odds 6 (some .long)), (1050, Cond.methodLink "PalmHoursLaw" 80 ⟨"PalmHours", "way", "(II)I"⟩), (1051, Cond.instanceMethod ⟨"PalmHours", "way", "(II)I"⟩), (1052, Cond.selects "PalmHours" ⟨"PalmHours", "way", "(II)I"⟩ ⟨"PalmHours", "way", "(II)I"⟩), (1053, Cond.code ⟨"PalmHours", "way", "(II)I"⟩ cX11_way 3 (some .int)), (1065, Cond.methodLink "PalmHoursLaw" 84 ⟨"PalmHours", "arrive", "(II)I"⟩), (1066, Cond.instanceMethod ⟨"PalmHours", "arrive", "(II)I"⟩), (1067, Cond.selects "PalmHours" ⟨"PalmHours", "arrive", "(II)I"⟩ ⟨"PalmHours", "arrive", "(II)I"⟩), (1068, Cond.code ⟨"PalmHours", "arrive", "(II)I"⟩ cX11_arrive 4 (some .int)), (1069, Cond.methodLink "PalmHoursLaw" 88 ⟨"PalmHours", "early", "(I)I"⟩), (1070, Cond.instanceMethod ⟨"PalmHours", "early", "(I)I"⟩), (1071, Cond.selects "PalmHours" ⟨"PalmHours", "early", "(I)I"⟩ ⟨"PalmHours", "early", "(I)I"⟩), (1072, Cond.code ⟨"PalmHours", "early", "(I)I"⟩ cX11_early 4 (some .int)), (1084, Cond.methodLink "PalmHoursLaw" 92 ⟨"PalmHours", "see", "()I"⟩), (1085, Cond.instanceMethod ⟨"PalmHours", "see", "()I"⟩), (1086, Cond.selects "PalmHours" ⟨"PalmHours", "see", "()I"⟩ ⟨"PalmHours", "see", "()I"⟩), (1087, Cond.code ⟨"PalmHours", "see", "()I"⟩ cX11_see 2 (some .int)), (1094, Cond.methodLink "PalmHoursLaw" 96 ⟨"PalmHours", "held", "(I)I"⟩), (1095, Cond.instanceMethod ⟨"PalmHours", "held", "(I)I"⟩), (1096, Cond.selects "PalmHours" ⟨"PalmHours", "held", "(I)I"⟩ ⟨"PalmHours", "held", "(I)I"⟩), (1097, Cond.code ⟨"PalmHours", "held", "(I)I"⟩ cX11_held 2 (some .int)), (1114, Cond.methodLink "PalmHoursLaw" 100 ⟨"PalmHours", "tells", "(II)I"⟩), (1115, Cond.instanceMethod ⟨"PalmHours", "tells", "(II)I"⟩), (1116, Cond.selects "PalmHours" ⟨"PalmHours", "tells", "(II)I"⟩ ⟨"PalmHours", "tells", "(II)I"⟩), (1117, Cond.code ⟨"PalmHours", "tells", "(II)I"⟩ cX11_tells 9 (some .int)), (1124, Cond.methodLink "PalmHoursLaw" 104 ⟨"PalmHours", "minutes", "(I)I"⟩), (1125, Cond.instanceMethod ⟨"PalmHours", "minutes", "(I)I"⟩), (1126, Cond.selects "PalmHours" ⟨"PalmHours", "minutes", "(I)I"⟩ ⟨"PalmHours", "minutes", "(I)I"⟩), (1127, Cond.code ⟨"PalmHours", "minutes", "(I)I"⟩ cX11_minutes 4 (some .int)), (1146, Cond.methodLink "PalmHoursLaw" 108 ⟨"PalmHours", "chance", "(I)I"⟩), (1147, Cond.instanceMethod ⟨"PalmHours", "chance", "(I)I"⟩), (1148, Cond.selects "PalmHours" ⟨"PalmHours", "chance", "(I)I"⟩ ⟨"PalmHours", "chance", "(I)I"⟩), (1149, Cond.code ⟨"PalmHours", "chance", "(I)I"⟩ cX11_chance 4 (some .int)), (1162, Cond.methodLink "PalmHoursLaw" 112 ⟨"PalmHours", "give", "(II)I"⟩), (1163, Cond.instanceMethod ⟨"PalmHours", "give", "(II)I"⟩), (1164, Cond.selects "PalmHours" ⟨"PalmHours", "give", "(II)I"⟩ ⟨"PalmHours", "give", "(II)I"⟩), (1165, Cond.code ⟨"PalmHours", "give", "(II)I"⟩ cX11_give 3 (some .int))]
theorem b41w0 : pkW lw_tbl 0 b41wl0 = true := by decide +kernel
theorem w663 : Cond.methodLink "PalmHoursLaw" 13 ⟨"PalmHours", "feed", "(IIIII)I"⟩ ∈ lw_g := pkW_i b41w0 0 rfl
theorem w664 : Cond.instanceMethod ⟨"PalmHours", "feed", "(IIIII)I"⟩ ∈ lw_g := pkW_i b41w0 1 rfl
theorem w665 : Cond.selects "PalmHours" ⟨"PalmHours", "feed", "(IIIII)I"⟩ ⟨"PalmHours", "feed", "(IIIII)I"⟩ ∈ lw_g := pkW_i b41w0 2 rfl
theorem w666 : Cond.code ⟨"PalmHours", "feed", "(IIIII)I"⟩ cX11_feed 6 (some .int) ∈ lw_g := pkW_i b41w0 3 rfl
theorem w679 : Cond.methodLink "PalmHoursLaw" 18 ⟨"PalmHours", "end", "(I)Z"⟩ ∈ lw_g := pkW_i b41w0 4 rfl
theorem w680 : Cond.instanceMethod ⟨"PalmHours", "end", "(I)Z"⟩ ∈ lw_g := pkW_i b41w0 5 rfl
theorem w681 : Cond.selects "PalmHours" ⟨"PalmHours", "end", "(I)Z"⟩ ⟨"PalmHours", "end", "(I)Z"⟩ ∈ lw_g := pkW_i b41w0 6 rfl
theorem w682 : Cond.code ⟨"PalmHours", "end", "(I)Z"⟩ cX11_end 2 (some .boolean) ∈ lw_g := pkW_i b41w0 7 rfl
theorem w683 : Cond.methodLink "PalmHoursLaw" 23 ⟨"PalmHours", "town", "()I"⟩ ∈ lw_g := pkW_i b41w0 8 rfl
theorem w684 : Cond.instanceMethod ⟨"PalmHours", "town", "()I"⟩ ∈ lw_g := pkW_i b41w0 9 rfl
theorem w685 : Cond.selects "PalmHours" ⟨"PalmHours", "town", "()I"⟩ ⟨"PalmHours", "town", "()I"⟩ ∈ lw_g := pkW_i b41w0 10 rfl
theorem w686 : Cond.code ⟨"PalmHours", "town", "()I"⟩ cX11_town 3 (some .int) ∈ lw_g := pkW_i b41w0 11 rfl
theorem w904 : Cond.methodLink "PalmHoursLaw" 28 ⟨"PalmHours", "fault", "(I)I"⟩ ∈ lw_g := pkW_i b41w0 12 rfl
theorem w905 : Cond.instanceMethod ⟨"PalmHours", "fault", "(I)I"⟩ ∈ lw_g := pkW_i b41w0 13 rfl
theorem w906 : Cond.selects "PalmHours" ⟨"PalmHours", "fault", "(I)I"⟩ ⟨"PalmHours", "fault", "(I)I"⟩ ∈ lw_g := pkW_i b41w0 14 rfl
theorem w907 : Cond.code ⟨"PalmHours", "fault", "(I)I"⟩ cX11_fault 2 (some .int) ∈ lw_g := pkW_i b41w0 15 rfl
theorem w908 : Cond.methodLink "PalmHoursLaw" 33 ⟨"PalmHours", "has", "(I)I"⟩ ∈ lw_g := pkW_i b41w0 16 rfl
theorem w909 : Cond.instanceMethod ⟨"PalmHours", "has", "(I)I"⟩ ∈ lw_g := pkW_i b41w0 17 rfl
theorem w910 : Cond.selects "PalmHours" ⟨"PalmHours", "has", "(I)I"⟩ ⟨"PalmHours", "has", "(I)I"⟩ ∈ lw_g := pkW_i b41w0 18 rfl
theorem w911 : Cond.code ⟨"PalmHours", "has", "(I)I"⟩ cX11_has 2 (some .int) ∈ lw_g := pkW_i b41w0 19 rfl
theorem w920 : Cond.methodLink "PalmHoursLaw" 37 ⟨"PalmHours", "letter", "(III)I"⟩ ∈ lw_g := pkW_i b41w0 20 rfl
theorem w921 : Cond.instanceMethod ⟨"PalmHours", "letter", "(III)I"⟩ ∈ lw_g := pkW_i b41w0 21 rfl
theorem w922 : Cond.selects "PalmHours" ⟨"PalmHours", "letter", "(III)I"⟩ ⟨"PalmHours", "letter", "(III)I"⟩ ∈ lw_g := pkW_i b41w0 22 rfl
theorem w923 : Cond.code ⟨"PalmHours", "letter", "(III)I"⟩ cX11_letter 4 (some .int) ∈ lw_g := pkW_i b41w0 23 rfl
theorem w936 : Cond.methodLink "PalmHoursLaw" 42 ⟨"PalmHours", "thing", "(II)I"⟩ ∈ lw_g := pkW_i b41w0 24 rfl
theorem w937 : Cond.instanceMethod ⟨"PalmHours", "thing", "(II)I"⟩ ∈ lw_g := pkW_i b41w0 25 rfl
theorem w938 : Cond.selects "PalmHours" ⟨"PalmHours", "thing", "(II)I"⟩ ⟨"PalmHours", "thing", "(II)I"⟩ ∈ lw_g := pkW_i b41w0 26 rfl
theorem w939 : Cond.code ⟨"PalmHours", "thing", "(II)I"⟩ cX11_thing 3 (some .int) ∈ lw_g := pkW_i b41w0 27 rfl
theorem w940 : Cond.methodLink "PalmHoursLaw" 47 ⟨"PalmHours", "corner", "(II)I"⟩ ∈ lw_g := pkW_i b41w0 28 rfl
theorem w941 : Cond.instanceMethod ⟨"PalmHours", "corner", "(II)I"⟩ ∈ lw_g := pkW_i b41w0 29 rfl
theorem w942 : Cond.selects "PalmHours" ⟨"PalmHours", "corner", "(II)I"⟩ ⟨"PalmHours", "corner", "(II)I"⟩ ∈ lw_g := pkW_i b41w0 30 rfl
theorem w943 : Cond.code ⟨"PalmHours", "corner", "(II)I"⟩ cX11_corner 3 (some .int) ∈ lw_g := pkW_i b41w0 31 rfl
theorem w954 : Cond.methodLink "PalmHoursLaw" 51 ⟨"PalmHours", "doing", "(II)I"⟩ ∈ lw_g := pkW_i b41w0 32 rfl
theorem w955 : Cond.instanceMethod ⟨"PalmHours", "doing", "(II)I"⟩ ∈ lw_g := pkW_i b41w0 33 rfl
theorem w956 : Cond.selects "PalmHours" ⟨"PalmHours", "doing", "(II)I"⟩ ⟨"PalmHours", "doing", "(II)I"⟩ ∈ lw_g := pkW_i b41w0 34 rfl
theorem w957 : Cond.code ⟨"PalmHours", "doing", "(II)I"⟩ cX11_doing 3 (some .int) ∈ lw_g := pkW_i b41w0 35 rfl
theorem w958 : Cond.methodLink "PalmHoursLaw" 55 ⟨"PalmHours", "later", "(II)I"⟩ ∈ lw_g := pkW_i b41w0 36 rfl
theorem w959 : Cond.instanceMethod ⟨"PalmHours", "later", "(II)I"⟩ ∈ lw_g := pkW_i b41w0 37 rfl
theorem w960 : Cond.selects "PalmHours" ⟨"PalmHours", "later", "(II)I"⟩ ⟨"PalmHours", "later", "(II)I"⟩ ∈ lw_g := pkW_i b41w0 38 rfl
theorem w961 : Cond.code ⟨"PalmHours", "later", "(II)I"⟩ cX11_later 3 (some .int) ∈ lw_g := pkW_i b41w0 39 rfl
theorem w979 : Cond.methodLink "PalmHoursLaw" 59 ⟨"PalmHours", "when", "(I)I"⟩ ∈ lw_g := pkW_i b41w0 40 rfl
theorem w980 : Cond.instanceMethod ⟨"PalmHours", "when", "(I)I"⟩ ∈ lw_g := pkW_i b41w0 41 rfl
theorem w981 : Cond.selects "PalmHours" ⟨"PalmHours", "when", "(I)I"⟩ ⟨"PalmHours", "when", "(I)I"⟩ ∈ lw_g := pkW_i b41w0 42 rfl
theorem w982 : Cond.code ⟨"PalmHours", "when", "(I)I"⟩ cX11_when 4 (some .int) ∈ lw_g := pkW_i b41w0 43 rfl
theorem w983 : Cond.methodLink "PalmHoursLaw" 63 ⟨"PalmHours", "alike", "(II)I"⟩ ∈ lw_g := pkW_i b41w0 44 rfl
theorem w984 : Cond.instanceMethod ⟨"PalmHours", "alike", "(II)I"⟩ ∈ lw_g := pkW_i b41w0 45 rfl
theorem w985 : Cond.selects "PalmHours" ⟨"PalmHours", "alike", "(II)I"⟩ ⟨"PalmHours", "alike", "(II)I"⟩ ∈ lw_g := pkW_i b41w0 46 rfl
theorem w986 : Cond.code ⟨"PalmHours", "alike", "(II)I"⟩ cX11_alike 5 (some .int) ∈ lw_g := pkW_i b41w0 47 rfl
theorem w987 : Cond.methodLink "PalmHoursLaw" 67 ⟨"PalmHours", "plan", "(III)I"⟩ ∈ lw_g := pkW_i b41w0 48 rfl
theorem w988 : Cond.instanceMethod ⟨"PalmHours", "plan", "(III)I"⟩ ∈ lw_g := pkW_i b41w0 49 rfl
theorem w989 : Cond.selects "PalmHours" ⟨"PalmHours", "plan", "(III)I"⟩ ⟨"PalmHours", "plan", "(III)I"⟩ ∈ lw_g := pkW_i b41w0 50 rfl
theorem w990 : Cond.code ⟨"PalmHours", "plan", "(III)I"⟩ cX11_plan 5 (some .int) ∈ lw_g := pkW_i b41w0 51 rfl
theorem w1023 : Cond.methodLink "PalmHoursLaw" 71 ⟨"PalmHours", "evening", "(II)I"⟩ ∈ lw_g := pkW_i b41w0 52 rfl
theorem w1024 : Cond.instanceMethod ⟨"PalmHours", "evening", "(II)I"⟩ ∈ lw_g := pkW_i b41w0 53 rfl
theorem w1025 : Cond.selects "PalmHours" ⟨"PalmHours", "evening", "(II)I"⟩ ⟨"PalmHours", "evening", "(II)I"⟩ ∈ lw_g := pkW_i b41w0 54 rfl
theorem w1026 : Cond.code ⟨"PalmHours", "evening", "(II)I"⟩ cX11_evening 7 (some .int) ∈ lw_g := pkW_i b41w0 55 rfl
theorem w1031 : Cond.methodLink "PalmHoursLaw" 75 ⟨"PalmHours", "odds", "(III)J"⟩ ∈ lw_g := pkW_i b41w0 56 rfl
theorem w1032 : Cond.instanceMethod ⟨"PalmHours", "odds", "(III)J"⟩ ∈ lw_g := pkW_i b41w0 57 rfl
theorem w1033 : Cond.selects "PalmHours" ⟨"PalmHours", "odds", "(III)J"⟩ ⟨"PalmHours", "odds", "(III)J"⟩ ∈ lw_g := pkW_i b41w0 58 rfl
theorem w1034 : Cond.code ⟨"PalmHours", "odds", "(III)J"⟩ cX11_odds 6 (some .long) ∈ lw_g := pkW_i b41w0 59 rfl
theorem w1050 : Cond.methodLink "PalmHoursLaw" 80 ⟨"PalmHours", "way", "(II)I"⟩ ∈ lw_g := pkW_i b41w0 60 rfl
theorem w1051 : Cond.instanceMethod ⟨"PalmHours", "way", "(II)I"⟩ ∈ lw_g := pkW_i b41w0 61 rfl
theorem w1052 : Cond.selects "PalmHours" ⟨"PalmHours", "way", "(II)I"⟩ ⟨"PalmHours", "way", "(II)I"⟩ ∈ lw_g := pkW_i b41w0 62 rfl
theorem w1053 : Cond.code ⟨"PalmHours", "way", "(II)I"⟩ cX11_way 3 (some .int) ∈ lw_g := pkW_i b41w0 63 rfl
theorem w1065 : Cond.methodLink "PalmHoursLaw" 84 ⟨"PalmHours", "arrive", "(II)I"⟩ ∈ lw_g := pkW_i b41w0 64 rfl
theorem w1066 : Cond.instanceMethod ⟨"PalmHours", "arrive", "(II)I"⟩ ∈ lw_g := pkW_i b41w0 65 rfl
theorem w1067 : Cond.selects "PalmHours" ⟨"PalmHours", "arrive", "(II)I"⟩ ⟨"PalmHours", "arrive", "(II)I"⟩ ∈ lw_g := pkW_i b41w0 66 rfl
theorem w1068 : Cond.code ⟨"PalmHours", "arrive", "(II)I"⟩ cX11_arrive 4 (some .int) ∈ lw_g := pkW_i b41w0 67 rfl
theorem w1069 : Cond.methodLink "PalmHoursLaw" 88 ⟨"PalmHours", "early", "(I)I"⟩ ∈ lw_g := pkW_i b41w0 68 rfl
theorem w1070 : Cond.instanceMethod ⟨"PalmHours", "early", "(I)I"⟩ ∈ lw_g := pkW_i b41w0 69 rfl
theorem w1071 : Cond.selects "PalmHours" ⟨"PalmHours", "early", "(I)I"⟩ ⟨"PalmHours", "early", "(I)I"⟩ ∈ lw_g := pkW_i b41w0 70 rfl
theorem w1072 : Cond.code ⟨"PalmHours", "early", "(I)I"⟩ cX11_early 4 (some .int) ∈ lw_g := pkW_i b41w0 71 rfl
theorem w1084 : Cond.methodLink "PalmHoursLaw" 92 ⟨"PalmHours", "see", "()I"⟩ ∈ lw_g := pkW_i b41w0 72 rfl
theorem w1085 : Cond.instanceMethod ⟨"PalmHours", "see", "()I"⟩ ∈ lw_g := pkW_i b41w0 73 rfl
theorem w1086 : Cond.selects "PalmHours" ⟨"PalmHours", "see", "()I"⟩ ⟨"PalmHours", "see", "()I"⟩ ∈ lw_g := pkW_i b41w0 74 rfl
theorem w1087 : Cond.code ⟨"PalmHours", "see", "()I"⟩ cX11_see 2 (some .int) ∈ lw_g := pkW_i b41w0 75 rfl
theorem w1094 : Cond.methodLink "PalmHoursLaw" 96 ⟨"PalmHours", "held", "(I)I"⟩ ∈ lw_g := pkW_i b41w0 76 rfl
theorem w1095 : Cond.instanceMethod ⟨"PalmHours", "held", "(I)I"⟩ ∈ lw_g := pkW_i b41w0 77 rfl
theorem w1096 : Cond.selects "PalmHours" ⟨"PalmHours", "held", "(I)I"⟩ ⟨"PalmHours", "held", "(I)I"⟩ ∈ lw_g := pkW_i b41w0 78 rfl
theorem w1097 : Cond.code ⟨"PalmHours", "held", "(I)I"⟩ cX11_held 2 (some .int) ∈ lw_g := pkW_i b41w0 79 rfl
theorem w1114 : Cond.methodLink "PalmHoursLaw" 100 ⟨"PalmHours", "tells", "(II)I"⟩ ∈ lw_g := pkW_i b41w0 80 rfl
theorem w1115 : Cond.instanceMethod ⟨"PalmHours", "tells", "(II)I"⟩ ∈ lw_g := pkW_i b41w0 81 rfl
theorem w1116 : Cond.selects "PalmHours" ⟨"PalmHours", "tells", "(II)I"⟩ ⟨"PalmHours", "tells", "(II)I"⟩ ∈ lw_g := pkW_i b41w0 82 rfl
theorem w1117 : Cond.code ⟨"PalmHours", "tells", "(II)I"⟩ cX11_tells 9 (some .int) ∈ lw_g := pkW_i b41w0 83 rfl
theorem w1124 : Cond.methodLink "PalmHoursLaw" 104 ⟨"PalmHours", "minutes", "(I)I"⟩ ∈ lw_g := pkW_i b41w0 84 rfl
theorem w1125 : Cond.instanceMethod ⟨"PalmHours", "minutes", "(I)I"⟩ ∈ lw_g := pkW_i b41w0 85 rfl
theorem w1126 : Cond.selects "PalmHours" ⟨"PalmHours", "minutes", "(I)I"⟩ ⟨"PalmHours", "minutes", "(I)I"⟩ ∈ lw_g := pkW_i b41w0 86 rfl
theorem w1127 : Cond.code ⟨"PalmHours", "minutes", "(I)I"⟩ cX11_minutes 4 (some .int) ∈ lw_g := pkW_i b41w0 87 rfl
theorem w1146 : Cond.methodLink "PalmHoursLaw" 108 ⟨"PalmHours", "chance", "(I)I"⟩ ∈ lw_g := pkW_i b41w0 88 rfl
theorem w1147 : Cond.instanceMethod ⟨"PalmHours", "chance", "(I)I"⟩ ∈ lw_g := pkW_i b41w0 89 rfl
theorem w1148 : Cond.selects "PalmHours" ⟨"PalmHours", "chance", "(I)I"⟩ ⟨"PalmHours", "chance", "(I)I"⟩ ∈ lw_g := pkW_i b41w0 90 rfl
theorem w1149 : Cond.code ⟨"PalmHours", "chance", "(I)I"⟩ cX11_chance 4 (some .int) ∈ lw_g := pkW_i b41w0 91 rfl
theorem w1162 : Cond.methodLink "PalmHoursLaw" 112 ⟨"PalmHours", "give", "(II)I"⟩ ∈ lw_g := pkW_i b41w0 92 rfl
theorem w1163 : Cond.instanceMethod ⟨"PalmHours", "give", "(II)I"⟩ ∈ lw_g := pkW_i b41w0 93 rfl
theorem w1164 : Cond.selects "PalmHours" ⟨"PalmHours", "give", "(II)I"⟩ ⟨"PalmHours", "give", "(II)I"⟩ ∈ lw_g := pkW_i b41w0 94 rfl
theorem w1165 : Cond.code ⟨"PalmHours", "give", "(II)I"⟩ cX11_give 3 (some .int) ∈ lw_g := pkW_i b41w0 95 rfl
def b41wl1 : List (Nat × Cond) := [(1170, Cond.methodLink "PalmHoursLaw" 116 ⟨"PalmHours", "take", "(I)I"⟩), (1171, Cond.instanceMethod ⟨"PalmHours", "take", "(I)I"⟩), (1172, Cond.selects "PalmHours" ⟨"PalmHours", "take", "(I)I"⟩ ⟨"PalmHours", "take", "(I)I"⟩), (1173, Cond.code ⟨"PalmHours", "take", "(I)I"⟩ cX11_take 2 (some .int)), (1174, Cond.methodLink "PalmHoursLaw" 120 ⟨"PalmHours", "undo", "()Z"⟩), (1175, Cond.instanceMethod ⟨"PalmHours", "undo", "()Z"⟩), (1176, Cond.selects "PalmHours" ⟨"PalmHours", "undo", "()Z"⟩ ⟨"PalmHours", "undo", "()Z"⟩), (1177, Cond.code ⟨"PalmHours", "undo", "()Z"⟩ cX11_undo 1 (some .boolean)), (1186, Cond.methodLink "PalmHoursLaw" 125 ⟨"PalmHours", "seed", "(I)Z"⟩), (1187, Cond.instanceMethod ⟨"PalmHours", "seed", "(I)Z"⟩), (1188, Cond.selects "PalmHours" ⟨"PalmHours", "seed", "(I)Z"⟩ ⟨"PalmHours", "seed", "(I)Z"⟩), (1189, Cond.code ⟨"PalmHours", "seed", "(I)Z"⟩ cX11_seed 2 (some .boolean)), (1190, Cond.methodLink "PalmHoursLaw" 129 ⟨"PalmHours", "kept", "(II)I"⟩), (1191, Cond.instanceMethod ⟨"PalmHours", "kept", "(II)I"⟩), (1192, Cond.selects "PalmHours" ⟨"PalmHours", "kept", "(II)I"⟩ ⟨"PalmHours", "kept", "(II)I"⟩), (1193, Cond.code ⟨"PalmHours", "kept", "(II)I"⟩ cX11_kept 3 (some .int)), (1194, Cond.methodLink "PalmHoursLaw" 133 ⟨"PalmHours", "image", "()I"⟩), (1195, Cond.instanceMethod ⟨"PalmHours", "image", "()I"⟩), (1196, Cond.selects "PalmHours" ⟨"PalmHours", "image", "()I"⟩ ⟨"PalmHours", "image", "()I"⟩), (1197, Cond.code ⟨"PalmHours", "image", "()I"⟩ cX11_image 1 (some .int)), (1209, Cond.methodLink "PalmHoursLaw" 137 ⟨"PalmHours", "octet", "(I)I"⟩), (1210, Cond.instanceMethod ⟨"PalmHours", "octet", "(I)I"⟩), (1211, Cond.selects "PalmHours" ⟨"PalmHours", "octet", "(I)I"⟩ ⟨"PalmHours", "octet", "(I)I"⟩), (1212, Cond.code ⟨"PalmHours", "octet", "(I)I"⟩ cX11_octet 2 (some .int)), (1213, Cond.methodLink "PalmHoursLaw" 141 ⟨"PalmHours", "on", "()Z"⟩), (1214, Cond.instanceMethod ⟨"PalmHours", "on", "()Z"⟩), (1215, Cond.selects "PalmHours" ⟨"PalmHours", "on", "()Z"⟩ ⟨"PalmHours", "on", "()Z"⟩), (1216, Cond.code ⟨"PalmHours", "on", "()Z"⟩ cX11_on 2 (some .boolean)), (1232, Cond.methodLink "PalmHoursLaw" 145 ⟨"PalmHours", "status", "(I)I"⟩), (1233, Cond.instanceMethod ⟨"PalmHours", "status", "(I)I"⟩), (1234, Cond.selects "PalmHours" ⟨"PalmHours", "status", "(I)I"⟩ ⟨"PalmHours", "status", "(I)I"⟩), (1235, Cond.code ⟨"PalmHours", "status", "(I)I"⟩ cX11_status 2 (some .int)), (1449, Cond.methodLink "PalmHoursLaw" 17 ⟨"PalmHoursModel", "feed", "(IIIII)I"⟩), (1450, Cond.instanceMethod ⟨"PalmHoursModel", "feed", "(IIIII)I"⟩), (1451, Cond.selects "PalmHoursModel" ⟨"PalmHoursModel", "feed", "(IIIII)I"⟩ ⟨"PalmHoursModel", "feed", "(IIIII)I"⟩), (1452, Cond.code ⟨"PalmHoursModel", "feed", "(IIIII)I"⟩ cX12_feed 6 (some .int)), (1461, Cond.methodLink "PalmHoursLaw" 22 ⟨"PalmHoursModel", "end", "(I)Z"⟩), (1462, Cond.instanceMethod ⟨"PalmHoursModel", "end", "(I)Z"⟩), (1463, Cond.selects "PalmHoursModel" ⟨"PalmHoursModel", "end", "(I)Z"⟩ ⟨"PalmHoursModel", "end", "(I)Z"⟩), (1464, Cond.code ⟨"PalmHoursModel", "end", "(I)Z"⟩ cX12_end 2 (some .boolean)), (1465, Cond.methodLink "PalmHoursLaw" 27 ⟨"PalmHoursModel", "town", "()I"⟩), (1466, Cond.instanceMethod ⟨"PalmHoursModel", "town", "()I"⟩), (1467, Cond.selects "PalmHoursModel" ⟨"PalmHoursModel", "town", "()I"⟩ ⟨"PalmHoursModel", "town", "()I"⟩), (1468, Cond.code ⟨"PalmHoursModel", "town", "()I"⟩ cX12_town 3 (some .int)), (1689, Cond.methodLink "PalmHoursLaw" 32 ⟨"PalmHoursModel", "fault", "(I)I"⟩), (1690, Cond.instanceMethod ⟨"PalmHoursModel", "fault", "(I)I"⟩), (1691, Cond.selects "PalmHoursModel" ⟨"PalmHoursModel", "fault", "(I)I"⟩ ⟨"PalmHoursModel", "fault", "(I)I"⟩), (1692, Cond.code ⟨"PalmHoursModel", "fault", "(I)I"⟩ cX12_fault 2 (some .int)), (1693, Cond.methodLink "PalmHoursLaw" 148 ⟨"PalmHoursModel", "status", "(I)I"⟩), (1694, Cond.instanceMethod ⟨"PalmHoursModel", "status", "(I)I"⟩), (1695, Cond.selects "PalmHoursModel" ⟨"PalmHoursModel", "status", "(I)I"⟩ ⟨"PalmHoursModel", "status", "(I)I"⟩), (1696, Cond.code ⟨"PalmHoursModel", "status", "(I)I"⟩ cX12_status 2 (some .int)), (1697, Cond.methodLink "PalmHoursLaw" 124 ⟨"PalmHoursModel", "undo", "()Z"⟩), (1698, Cond.instanceMethod ⟨"PalmHoursModel", "undo", "()Z"⟩), (1699, Cond.selects "PalmHoursModel" ⟨"PalmHoursModel", "undo", "()Z"⟩ ⟨"PalmHoursModel", "undo", "()Z"⟩), (1700, Cond.code ⟨"PalmHoursModel", "undo", "()Z"⟩ cX12_undo 1 (some .boolean)), (1709, Cond.methodLink "PalmHoursLaw" 36 ⟨"PalmHoursModel", "has", "(I)I"⟩), (1710, Cond.instanceMethod ⟨"PalmHoursModel", "has", "(I)I"⟩), (1711, Cond.selects "PalmHoursModel" ⟨"PalmHoursModel", "has", "(I)I"⟩ ⟨"PalmHoursModel", "has", "(I)I"⟩), (1712, Cond.code ⟨"PalmHoursModel", "has", "(I)I"⟩ cX12_has 4 (some .int)), (1716, Cond.methodLink "PalmHoursLaw" 41 ⟨"PalmHoursModel", "letter", "(III)I"⟩), (1717, Cond.instanceMethod ⟨"PalmHoursModel", "letter", "(III)I"⟩), (1718, Cond.selects "PalmHoursModel" ⟨"PalmHoursModel", "letter", "(III)I"⟩ ⟨"PalmHoursModel", "letter", "(III)I"⟩), (1719, Cond.code ⟨"PalmHoursModel", "letter", "(III)I"⟩ cX12_letter 9 (some .int)), (1721, Cond.methodLink "PalmHoursLaw" 46 ⟨"PalmHoursModel", "thing", "(II)I"⟩), (1722, Cond.instanceMethod ⟨"PalmHoursModel", "thing", "(II)I"⟩), (1723, Cond.selects "PalmHoursModel" ⟨"PalmHoursModel", "thing", "(II)I"⟩ ⟨"PalmHoursModel", "thing", "(II)I"⟩), (1724, Cond.code ⟨"PalmHoursModel", "thing", "(II)I"⟩ cX12_thing 3 (some .int)), (1729, Cond.methodLink "PalmHoursLaw" 50 ⟨"PalmHoursModel", "corner", "(II)I"⟩), (1730, Cond.instanceMethod ⟨"PalmHoursModel", "corner", "(II)I"⟩), (1731, Cond.selects "PalmHoursModel" ⟨"PalmHoursModel", "corner", "(II)I"⟩ ⟨"PalmHoursModel", "corner", "(II)I"⟩), (1732, Cond.code ⟨"PalmHoursModel", "corner", "(II)I"⟩ cX12_corner 3 (some .int)), (1737, Cond.methodLink "PalmHoursLaw" 54 ⟨"PalmHoursModel", "doing", "(II)I"⟩), (1738, Cond.instanceMethod ⟨"PalmHoursModel", "doing", "(II)I"⟩), (1739, Cond.selects "PalmHoursModel" ⟨"PalmHoursModel", "doing", "(II)I"⟩ ⟨"PalmHoursModel", "doing", "(II)I"⟩), (1740, Cond.code ⟨"PalmHoursModel", "doing", "(II)I"⟩ cX12_doing 3 (some .int)), (1745, Cond.methodLink "PalmHoursLaw" 58 ⟨"PalmHoursModel", "later", "(II)I"⟩), (1769, Cond.methodLink "PalmHoursLaw" 62 ⟨"PalmHoursModel", "when", "(I)I"⟩), (1770, Cond.instanceMethod ⟨"PalmHoursModel", "when", "(I)I"⟩), (1771, Cond.selects "PalmHoursModel" ⟨"PalmHoursModel", "when", "(I)I"⟩ ⟨"PalmHoursModel", "when", "(I)I"⟩), (1772, Cond.code ⟨"PalmHoursModel", "when", "(I)I"⟩ cX12_when 3 (some .int)), (1773, Cond.methodLink "PalmHoursLaw" 66 ⟨"PalmHoursModel", "alike", "(II)I"⟩), (1774, Cond.instanceMethod ⟨"PalmHoursModel", "alike", "(II)I"⟩), (1775, Cond.selects "PalmHoursModel" ⟨"PalmHoursModel", "alike", "(II)I"⟩ ⟨"PalmHoursModel", "alike", "(II)I"⟩), (1776, Cond.code ⟨"PalmHoursModel", "alike", "(II)I"⟩ cX12_alike 4 (some .int)), (1777, Cond.methodLink "PalmHoursLaw" 70 ⟨"PalmHoursModel", "plan", "(III)I"⟩), (1778, Cond.instanceMethod ⟨"PalmHoursModel", "plan", "(III)I"⟩), (1779, Cond.selects "PalmHoursModel" ⟨"PalmHoursModel", "plan", "(III)I"⟩ ⟨"PalmHoursModel", "plan", "(III)I"⟩), (1780, Cond.code ⟨"PalmHoursModel", "plan", "(III)I"⟩ cX12_plan 10 (some .int)), (1785, Cond.methodLink "PalmHoursLaw" 74 ⟨"PalmHoursModel", "evening", "(II)I"⟩), (1786, Cond.instanceMethod ⟨"PalmHoursModel", "evening", "(II)I"⟩), (1787, Cond.selects "PalmHoursModel" ⟨"PalmHoursModel", "evening", "(II)I"⟩ ⟨"PalmHoursModel", "evening", "(II)I"⟩), (1788, Cond.code ⟨"PalmHoursModel", "evening", "(II)I"⟩ cX12_evening 10 (some .int)), (1789, Cond.methodLink "PalmHoursLaw" 79 ⟨"PalmHoursModel", "odds", "(III)J"⟩), (1790, Cond.instanceMethod ⟨"PalmHoursModel", "odds", "(III)J"⟩), (1791, Cond.selects "PalmHoursModel" ⟨"PalmHoursModel", "odds", "(III)J"⟩ ⟨"PalmHoursModel", "odds", "(III)J"⟩)]
theorem b41w1 : pkW lw_tbl 0 b41wl1 = true := by decide +kernel
theorem w1170 : Cond.methodLink "PalmHoursLaw" 116 ⟨"PalmHours", "take", "(I)I"⟩ ∈ lw_g := pkW_i b41w1 0 rfl
theorem w1171 : Cond.instanceMethod ⟨"PalmHours", "take", "(I)I"⟩ ∈ lw_g := pkW_i b41w1 1 rfl
theorem w1172 : Cond.selects "PalmHours" ⟨"PalmHours", "take", "(I)I"⟩ ⟨"PalmHours", "take", "(I)I"⟩ ∈ lw_g := pkW_i b41w1 2 rfl
theorem w1173 : Cond.code ⟨"PalmHours", "take", "(I)I"⟩ cX11_take 2 (some .int) ∈ lw_g := pkW_i b41w1 3 rfl
theorem w1174 : Cond.methodLink "PalmHoursLaw" 120 ⟨"PalmHours", "undo", "()Z"⟩ ∈ lw_g := pkW_i b41w1 4 rfl
theorem w1175 : Cond.instanceMethod ⟨"PalmHours", "undo", "()Z"⟩ ∈ lw_g := pkW_i b41w1 5 rfl
theorem w1176 : Cond.selects "PalmHours" ⟨"PalmHours", "undo", "()Z"⟩ ⟨"PalmHours", "undo", "()Z"⟩ ∈ lw_g := pkW_i b41w1 6 rfl
theorem w1177 : Cond.code ⟨"PalmHours", "undo", "()Z"⟩ cX11_undo 1 (some .boolean) ∈ lw_g := pkW_i b41w1 7 rfl
theorem w1186 : Cond.methodLink "PalmHoursLaw" 125 ⟨"PalmHours", "seed", "(I)Z"⟩ ∈ lw_g := pkW_i b41w1 8 rfl
theorem w1187 : Cond.instanceMethod ⟨"PalmHours", "seed", "(I)Z"⟩ ∈ lw_g := pkW_i b41w1 9 rfl
theorem w1188 : Cond.selects "PalmHours" ⟨"PalmHours", "seed", "(I)Z"⟩ ⟨"PalmHours", "seed", "(I)Z"⟩ ∈ lw_g := pkW_i b41w1 10 rfl
theorem w1189 : Cond.code ⟨"PalmHours", "seed", "(I)Z"⟩ cX11_seed 2 (some .boolean) ∈ lw_g := pkW_i b41w1 11 rfl
theorem w1190 : Cond.methodLink "PalmHoursLaw" 129 ⟨"PalmHours", "kept", "(II)I"⟩ ∈ lw_g := pkW_i b41w1 12 rfl
theorem w1191 : Cond.instanceMethod ⟨"PalmHours", "kept", "(II)I"⟩ ∈ lw_g := pkW_i b41w1 13 rfl
theorem w1192 : Cond.selects "PalmHours" ⟨"PalmHours", "kept", "(II)I"⟩ ⟨"PalmHours", "kept", "(II)I"⟩ ∈ lw_g := pkW_i b41w1 14 rfl
theorem w1193 : Cond.code ⟨"PalmHours", "kept", "(II)I"⟩ cX11_kept 3 (some .int) ∈ lw_g := pkW_i b41w1 15 rfl
theorem w1194 : Cond.methodLink "PalmHoursLaw" 133 ⟨"PalmHours", "image", "()I"⟩ ∈ lw_g := pkW_i b41w1 16 rfl
theorem w1195 : Cond.instanceMethod ⟨"PalmHours", "image", "()I"⟩ ∈ lw_g := pkW_i b41w1 17 rfl
theorem w1196 : Cond.selects "PalmHours" ⟨"PalmHours", "image", "()I"⟩ ⟨"PalmHours", "image", "()I"⟩ ∈ lw_g := pkW_i b41w1 18 rfl
theorem w1197 : Cond.code ⟨"PalmHours", "image", "()I"⟩ cX11_image 1 (some .int) ∈ lw_g := pkW_i b41w1 19 rfl
theorem w1209 : Cond.methodLink "PalmHoursLaw" 137 ⟨"PalmHours", "octet", "(I)I"⟩ ∈ lw_g := pkW_i b41w1 20 rfl
theorem w1210 : Cond.instanceMethod ⟨"PalmHours", "octet", "(I)I"⟩ ∈ lw_g := pkW_i b41w1 21 rfl
theorem w1211 : Cond.selects "PalmHours" ⟨"PalmHours", "octet", "(I)I"⟩ ⟨"PalmHours", "octet", "(I)I"⟩ ∈ lw_g := pkW_i b41w1 22 rfl
theorem w1212 : Cond.code ⟨"PalmHours", "octet", "(I)I"⟩ cX11_octet 2 (some .int) ∈ lw_g := pkW_i b41w1 23 rfl
theorem w1213 : Cond.methodLink "PalmHoursLaw" 141 ⟨"PalmHours", "on", "()Z"⟩ ∈ lw_g := pkW_i b41w1 24 rfl
theorem w1214 : Cond.instanceMethod ⟨"PalmHours", "on", "()Z"⟩ ∈ lw_g := pkW_i b41w1 25 rfl
theorem w1215 : Cond.selects "PalmHours" ⟨"PalmHours", "on", "()Z"⟩ ⟨"PalmHours", "on", "()Z"⟩ ∈ lw_g := pkW_i b41w1 26 rfl
theorem w1216 : Cond.code ⟨"PalmHours", "on", "()Z"⟩ cX11_on 2 (some .boolean) ∈ lw_g := pkW_i b41w1 27 rfl
theorem w1232 : Cond.methodLink "PalmHoursLaw" 145 ⟨"PalmHours", "status", "(I)I"⟩ ∈ lw_g := pkW_i b41w1 28 rfl
theorem w1233 : Cond.instanceMethod ⟨"PalmHours", "status", "(I)I"⟩ ∈ lw_g := pkW_i b41w1 29 rfl
theorem w1234 : Cond.selects "PalmHours" ⟨"PalmHours", "status", "(I)I"⟩ ⟨"PalmHours", "status", "(I)I"⟩ ∈ lw_g := pkW_i b41w1 30 rfl
theorem w1235 : Cond.code ⟨"PalmHours", "status", "(I)I"⟩ cX11_status 2 (some .int) ∈ lw_g := pkW_i b41w1 31 rfl
theorem w1449 : Cond.methodLink "PalmHoursLaw" 17 ⟨"PalmHoursModel", "feed", "(IIIII)I"⟩ ∈ lw_g := pkW_i b41w1 32 rfl
theorem w1450 : Cond.instanceMethod ⟨"PalmHoursModel", "feed", "(IIIII)I"⟩ ∈ lw_g := pkW_i b41w1 33 rfl
theorem w1451 : Cond.selects "PalmHoursModel" ⟨"PalmHoursModel", "feed", "(IIIII)I"⟩ ⟨"PalmHoursModel", "feed", "(IIIII)I"⟩ ∈ lw_g := pkW_i b41w1 34 rfl
theorem w1452 : Cond.code ⟨"PalmHoursModel", "feed", "(IIIII)I"⟩ cX12_feed 6 (some .int) ∈ lw_g := pkW_i b41w1 35 rfl
theorem w1461 : Cond.methodLink "PalmHoursLaw" 22 ⟨"PalmHoursModel", "end", "(I)Z"⟩ ∈ lw_g := pkW_i b41w1 36 rfl
theorem w1462 : Cond.instanceMethod ⟨"PalmHoursModel", "end", "(I)Z"⟩ ∈ lw_g := pkW_i b41w1 37 rfl
theorem w1463 : Cond.selects "PalmHoursModel" ⟨"PalmHoursModel", "end", "(I)Z"⟩ ⟨"PalmHoursModel", "end", "(I)Z"⟩ ∈ lw_g := pkW_i b41w1 38 rfl
theorem w1464 : Cond.code ⟨"PalmHoursModel", "end", "(I)Z"⟩ cX12_end 2 (some .boolean) ∈ lw_g := pkW_i b41w1 39 rfl
theorem w1465 : Cond.methodLink "PalmHoursLaw" 27 ⟨"PalmHoursModel", "town", "()I"⟩ ∈ lw_g := pkW_i b41w1 40 rfl
theorem w1466 : Cond.instanceMethod ⟨"PalmHoursModel", "town", "()I"⟩ ∈ lw_g := pkW_i b41w1 41 rfl
theorem w1467 : Cond.selects "PalmHoursModel" ⟨"PalmHoursModel", "town", "()I"⟩ ⟨"PalmHoursModel", "town", "()I"⟩ ∈ lw_g := pkW_i b41w1 42 rfl
theorem w1468 : Cond.code ⟨"PalmHoursModel", "town", "()I"⟩ cX12_town 3 (some .int) ∈ lw_g := pkW_i b41w1 43 rfl
theorem w1689 : Cond.methodLink "PalmHoursLaw" 32 ⟨"PalmHoursModel", "fault", "(I)I"⟩ ∈ lw_g := pkW_i b41w1 44 rfl
theorem w1690 : Cond.instanceMethod ⟨"PalmHoursModel", "fault", "(I)I"⟩ ∈ lw_g := pkW_i b41w1 45 rfl
theorem w1691 : Cond.selects "PalmHoursModel" ⟨"PalmHoursModel", "fault", "(I)I"⟩ ⟨"PalmHoursModel", "fault", "(I)I"⟩ ∈ lw_g := pkW_i b41w1 46 rfl
theorem w1692 : Cond.code ⟨"PalmHoursModel", "fault", "(I)I"⟩ cX12_fault 2 (some .int) ∈ lw_g := pkW_i b41w1 47 rfl
theorem w1693 : Cond.methodLink "PalmHoursLaw" 148 ⟨"PalmHoursModel", "status", "(I)I"⟩ ∈ lw_g := pkW_i b41w1 48 rfl
theorem w1694 : Cond.instanceMethod ⟨"PalmHoursModel", "status", "(I)I"⟩ ∈ lw_g := pkW_i b41w1 49 rfl
theorem w1695 : Cond.selects "PalmHoursModel" ⟨"PalmHoursModel", "status", "(I)I"⟩ ⟨"PalmHoursModel", "status", "(I)I"⟩ ∈ lw_g := pkW_i b41w1 50 rfl
theorem w1696 : Cond.code ⟨"PalmHoursModel", "status", "(I)I"⟩ cX12_status 2 (some .int) ∈ lw_g := pkW_i b41w1 51 rfl
theorem w1697 : Cond.methodLink "PalmHoursLaw" 124 ⟨"PalmHoursModel", "undo", "()Z"⟩ ∈ lw_g := pkW_i b41w1 52 rfl
theorem w1698 : Cond.instanceMethod ⟨"PalmHoursModel", "undo", "()Z"⟩ ∈ lw_g := pkW_i b41w1 53 rfl
theorem w1699 : Cond.selects "PalmHoursModel" ⟨"PalmHoursModel", "undo", "()Z"⟩ ⟨"PalmHoursModel", "undo", "()Z"⟩ ∈ lw_g := pkW_i b41w1 54 rfl
theorem w1700 : Cond.code ⟨"PalmHoursModel", "undo", "()Z"⟩ cX12_undo 1 (some .boolean) ∈ lw_g := pkW_i b41w1 55 rfl
theorem w1709 : Cond.methodLink "PalmHoursLaw" 36 ⟨"PalmHoursModel", "has", "(I)I"⟩ ∈ lw_g := pkW_i b41w1 56 rfl
theorem w1710 : Cond.instanceMethod ⟨"PalmHoursModel", "has", "(I)I"⟩ ∈ lw_g := pkW_i b41w1 57 rfl
theorem w1711 : Cond.selects "PalmHoursModel" ⟨"PalmHoursModel", "has", "(I)I"⟩ ⟨"PalmHoursModel", "has", "(I)I"⟩ ∈ lw_g := pkW_i b41w1 58 rfl
theorem w1712 : Cond.code ⟨"PalmHoursModel", "has", "(I)I"⟩ cX12_has 4 (some .int) ∈ lw_g := pkW_i b41w1 59 rfl
theorem w1716 : Cond.methodLink "PalmHoursLaw" 41 ⟨"PalmHoursModel", "letter", "(III)I"⟩ ∈ lw_g := pkW_i b41w1 60 rfl
theorem w1717 : Cond.instanceMethod ⟨"PalmHoursModel", "letter", "(III)I"⟩ ∈ lw_g := pkW_i b41w1 61 rfl
theorem w1718 : Cond.selects "PalmHoursModel" ⟨"PalmHoursModel", "letter", "(III)I"⟩ ⟨"PalmHoursModel", "letter", "(III)I"⟩ ∈ lw_g := pkW_i b41w1 62 rfl
theorem w1719 : Cond.code ⟨"PalmHoursModel", "letter", "(III)I"⟩ cX12_letter 9 (some .int) ∈ lw_g := pkW_i b41w1 63 rfl
theorem w1721 : Cond.methodLink "PalmHoursLaw" 46 ⟨"PalmHoursModel", "thing", "(II)I"⟩ ∈ lw_g := pkW_i b41w1 64 rfl
theorem w1722 : Cond.instanceMethod ⟨"PalmHoursModel", "thing", "(II)I"⟩ ∈ lw_g := pkW_i b41w1 65 rfl
theorem w1723 : Cond.selects "PalmHoursModel" ⟨"PalmHoursModel", "thing", "(II)I"⟩ ⟨"PalmHoursModel", "thing", "(II)I"⟩ ∈ lw_g := pkW_i b41w1 66 rfl
theorem w1724 : Cond.code ⟨"PalmHoursModel", "thing", "(II)I"⟩ cX12_thing 3 (some .int) ∈ lw_g := pkW_i b41w1 67 rfl
theorem w1729 : Cond.methodLink "PalmHoursLaw" 50 ⟨"PalmHoursModel", "corner", "(II)I"⟩ ∈ lw_g := pkW_i b41w1 68 rfl
theorem w1730 : Cond.instanceMethod ⟨"PalmHoursModel", "corner", "(II)I"⟩ ∈ lw_g := pkW_i b41w1 69 rfl
theorem w1731 : Cond.selects "PalmHoursModel" ⟨"PalmHoursModel", "corner", "(II)I"⟩ ⟨"PalmHoursModel", "corner", "(II)I"⟩ ∈ lw_g := pkW_i b41w1 70 rfl
theorem w1732 : Cond.code ⟨"PalmHoursModel", "corner", "(II)I"⟩ cX12_corner 3 (some .int) ∈ lw_g := pkW_i b41w1 71 rfl
theorem w1737 : Cond.methodLink "PalmHoursLaw" 54 ⟨"PalmHoursModel", "doing", "(II)I"⟩ ∈ lw_g := pkW_i b41w1 72 rfl
theorem w1738 : Cond.instanceMethod ⟨"PalmHoursModel", "doing", "(II)I"⟩ ∈ lw_g := pkW_i b41w1 73 rfl
theorem w1739 : Cond.selects "PalmHoursModel" ⟨"PalmHoursModel", "doing", "(II)I"⟩ ⟨"PalmHoursModel", "doing", "(II)I"⟩ ∈ lw_g := pkW_i b41w1 74 rfl
theorem w1740 : Cond.code ⟨"PalmHoursModel", "doing", "(II)I"⟩ cX12_doing 3 (some .int) ∈ lw_g := pkW_i b41w1 75 rfl
theorem w1745 : Cond.methodLink "PalmHoursLaw" 58 ⟨"PalmHoursModel", "later", "(II)I"⟩ ∈ lw_g := pkW_i b41w1 76 rfl
theorem w1769 : Cond.methodLink "PalmHoursLaw" 62 ⟨"PalmHoursModel", "when", "(I)I"⟩ ∈ lw_g := pkW_i b41w1 77 rfl
theorem w1770 : Cond.instanceMethod ⟨"PalmHoursModel", "when", "(I)I"⟩ ∈ lw_g := pkW_i b41w1 78 rfl
theorem w1771 : Cond.selects "PalmHoursModel" ⟨"PalmHoursModel", "when", "(I)I"⟩ ⟨"PalmHoursModel", "when", "(I)I"⟩ ∈ lw_g := pkW_i b41w1 79 rfl
theorem w1772 : Cond.code ⟨"PalmHoursModel", "when", "(I)I"⟩ cX12_when 3 (some .int) ∈ lw_g := pkW_i b41w1 80 rfl
theorem w1773 : Cond.methodLink "PalmHoursLaw" 66 ⟨"PalmHoursModel", "alike", "(II)I"⟩ ∈ lw_g := pkW_i b41w1 81 rfl
theorem w1774 : Cond.instanceMethod ⟨"PalmHoursModel", "alike", "(II)I"⟩ ∈ lw_g := pkW_i b41w1 82 rfl
theorem w1775 : Cond.selects "PalmHoursModel" ⟨"PalmHoursModel", "alike", "(II)I"⟩ ⟨"PalmHoursModel", "alike", "(II)I"⟩ ∈ lw_g := pkW_i b41w1 83 rfl
theorem w1776 : Cond.code ⟨"PalmHoursModel", "alike", "(II)I"⟩ cX12_alike 4 (some .int) ∈ lw_g := pkW_i b41w1 84 rfl
theorem w1777 : Cond.methodLink "PalmHoursLaw" 70 ⟨"PalmHoursModel", "plan", "(III)I"⟩ ∈ lw_g := pkW_i b41w1 85 rfl
theorem w1778 : Cond.instanceMethod ⟨"PalmHoursModel", "plan", "(III)I"⟩ ∈ lw_g := pkW_i b41w1 86 rfl
theorem w1779 : Cond.selects "PalmHoursModel" ⟨"PalmHoursModel", "plan", "(III)I"⟩ ⟨"PalmHoursModel", "plan", "(III)I"⟩ ∈ lw_g := pkW_i b41w1 87 rfl
theorem w1780 : Cond.code ⟨"PalmHoursModel", "plan", "(III)I"⟩ cX12_plan 10 (some .int) ∈ lw_g := pkW_i b41w1 88 rfl
theorem w1785 : Cond.methodLink "PalmHoursLaw" 74 ⟨"PalmHoursModel", "evening", "(II)I"⟩ ∈ lw_g := pkW_i b41w1 89 rfl
theorem w1786 : Cond.instanceMethod ⟨"PalmHoursModel", "evening", "(II)I"⟩ ∈ lw_g := pkW_i b41w1 90 rfl
theorem w1787 : Cond.selects "PalmHoursModel" ⟨"PalmHoursModel", "evening", "(II)I"⟩ ⟨"PalmHoursModel", "evening", "(II)I"⟩ ∈ lw_g := pkW_i b41w1 91 rfl
theorem w1788 : Cond.code ⟨"PalmHoursModel", "evening", "(II)I"⟩ cX12_evening 10 (some .int) ∈ lw_g := pkW_i b41w1 92 rfl
theorem w1789 : Cond.methodLink "PalmHoursLaw" 79 ⟨"PalmHoursModel", "odds", "(III)J"⟩ ∈ lw_g := pkW_i b41w1 93 rfl
theorem w1790 : Cond.instanceMethod ⟨"PalmHoursModel", "odds", "(III)J"⟩ ∈ lw_g := pkW_i b41w1 94 rfl
theorem w1791 : Cond.selects "PalmHoursModel" ⟨"PalmHoursModel", "odds", "(III)J"⟩ ⟨"PalmHoursModel", "odds", "(III)J"⟩ ∈ lw_g := pkW_i b41w1 95 rfl
def b41wl2 : List (Nat × Cond) := [(1792, Cond.code ⟨"PalmHoursModel", "odds", "(III)J"⟩ cX12_odds 14 (some .long)), (1794, Cond.methodLink "PalmHoursLaw" 83 ⟨"PalmHoursModel", "way", "(II)I"⟩), (1798, Cond.methodLink "PalmHoursLaw" 87 ⟨"PalmHoursModel", "arrive", "(II)I"⟩), (1799, Cond.instanceMethod ⟨"PalmHoursModel", "arrive", "(II)I"⟩), (1800, Cond.selects "PalmHoursModel" ⟨"PalmHoursModel", "arrive", "(II)I"⟩ ⟨"PalmHoursModel", "arrive", "(II)I"⟩), (1801, Cond.code ⟨"PalmHoursModel", "arrive", "(II)I"⟩ cX12_arrive 4 (some .int)), (1804, Cond.methodLink "PalmHoursLaw" 91 ⟨"PalmHoursModel", "early", "(I)I"⟩), (1805, Cond.instanceMethod ⟨"PalmHoursModel", "early", "(I)I"⟩), (1806, Cond.selects "PalmHoursModel" ⟨"PalmHoursModel", "early", "(I)I"⟩ ⟨"PalmHoursModel", "early", "(I)I"⟩), (1807, Cond.code ⟨"PalmHoursModel", "early", "(I)I"⟩ cX12_early 6 (some .int)), (1808, Cond.methodLink "PalmHoursLaw" 95 ⟨"PalmHoursModel", "see", "()I"⟩), (1809, Cond.instanceMethod ⟨"PalmHoursModel", "see", "()I"⟩), (1810, Cond.selects "PalmHoursModel" ⟨"PalmHoursModel", "see", "()I"⟩ ⟨"PalmHoursModel", "see", "()I"⟩), (1811, Cond.code ⟨"PalmHoursModel", "see", "()I"⟩ cX12_see 4 (some .int)), (1812, Cond.methodLink "PalmHoursLaw" 99 ⟨"PalmHoursModel", "held", "(I)I"⟩), (1813, Cond.instanceMethod ⟨"PalmHoursModel", "held", "(I)I"⟩), (1814, Cond.selects "PalmHoursModel" ⟨"PalmHoursModel", "held", "(I)I"⟩ ⟨"PalmHoursModel", "held", "(I)I"⟩), (1815, Cond.code ⟨"PalmHoursModel", "held", "(I)I"⟩ cX12_held 2 (some .int)), (1820, Cond.methodLink "PalmHoursLaw" 103 ⟨"PalmHoursModel", "tells", "(II)I"⟩), (1821, Cond.instanceMethod ⟨"PalmHoursModel", "tells", "(II)I"⟩), (1822, Cond.selects "PalmHoursModel" ⟨"PalmHoursModel", "tells", "(II)I"⟩ ⟨"PalmHoursModel", "tells", "(II)I"⟩), (1823, Cond.code ⟨"PalmHoursModel", "tells", "(II)I"⟩ cX12_tells 11 (some .int)), (1824, Cond.methodLink "PalmHoursLaw" 107 ⟨"PalmHoursModel", "minutes", "(I)I"⟩), (1825, Cond.instanceMethod ⟨"PalmHoursModel", "minutes", "(I)I"⟩), (1826, Cond.selects "PalmHoursModel" ⟨"PalmHoursModel", "minutes", "(I)I"⟩ ⟨"PalmHoursModel", "minutes", "(I)I"⟩), (1827, Cond.code ⟨"PalmHoursModel", "minutes", "(I)I"⟩ cX12_minutes 4 (some .int)), (1832, Cond.methodLink "PalmHoursLaw" 111 ⟨"PalmHoursModel", "chance", "(I)I"⟩), (1833, Cond.instanceMethod ⟨"PalmHoursModel", "chance", "(I)I"⟩), (1834, Cond.selects "PalmHoursModel" ⟨"PalmHoursModel", "chance", "(I)I"⟩ ⟨"PalmHoursModel", "chance", "(I)I"⟩), (1835, Cond.code ⟨"PalmHoursModel", "chance", "(I)I"⟩ cX12_chance 5 (some .int)), (1844, Cond.methodLink "PalmHoursLaw" 115 ⟨"PalmHoursModel", "give", "(II)I"⟩), (1845, Cond.instanceMethod ⟨"PalmHoursModel", "give", "(II)I"⟩), (1846, Cond.selects "PalmHoursModel" ⟨"PalmHoursModel", "give", "(II)I"⟩ ⟨"PalmHoursModel", "give", "(II)I"⟩), (1847, Cond.code ⟨"PalmHoursModel", "give", "(II)I"⟩ cX12_give 3 (some .int)), (1848, Cond.methodLink "PalmHoursLaw" 119 ⟨"PalmHoursModel", "take", "(I)I"⟩), (1849, Cond.instanceMethod ⟨"PalmHoursModel", "take", "(I)I"⟩), (1850, Cond.selects "PalmHoursModel" ⟨"PalmHoursModel", "take", "(I)I"⟩ ⟨"PalmHoursModel", "take", "(I)I"⟩), (1851, Cond.code ⟨"PalmHoursModel", "take", "(I)I"⟩ cX12_take 2 (some .int)), (1852, Cond.methodLink "PalmHoursLaw" 128 ⟨"PalmHoursModel", "seed", "(I)Z"⟩), (1853, Cond.instanceMethod ⟨"PalmHoursModel", "seed", "(I)Z"⟩), (1854, Cond.selects "PalmHoursModel" ⟨"PalmHoursModel", "seed", "(I)Z"⟩ ⟨"PalmHoursModel", "seed", "(I)Z"⟩), (1855, Cond.code ⟨"PalmHoursModel", "seed", "(I)Z"⟩ cX12_seed 2 (some .boolean)), (1856, Cond.methodLink "PalmHoursLaw" 132 ⟨"PalmHoursModel", "kept", "(II)I"⟩), (1857, Cond.instanceMethod ⟨"PalmHoursModel", "kept", "(II)I"⟩), (1858, Cond.selects "PalmHoursModel" ⟨"PalmHoursModel", "kept", "(II)I"⟩ ⟨"PalmHoursModel", "kept", "(II)I"⟩), (1859, Cond.code ⟨"PalmHoursModel", "kept", "(II)I"⟩ cX12_kept 3 (some .int)), (1860, Cond.methodLink "PalmHoursLaw" 136 ⟨"PalmHoursModel", "image", "()I"⟩), (1861, Cond.instanceMethod ⟨"PalmHoursModel", "image", "()I"⟩), (1862, Cond.selects "PalmHoursModel" ⟨"PalmHoursModel", "image", "()I"⟩ ⟨"PalmHoursModel", "image", "()I"⟩), (1863, Cond.code ⟨"PalmHoursModel", "image", "()I"⟩ cX12_image 3 (some .int)), (1868, Cond.methodLink "PalmHoursLaw" 140 ⟨"PalmHoursModel", "octet", "(I)I"⟩), (1869, Cond.instanceMethod ⟨"PalmHoursModel", "octet", "(I)I"⟩), (1870, Cond.selects "PalmHoursModel" ⟨"PalmHoursModel", "octet", "(I)I"⟩ ⟨"PalmHoursModel", "octet", "(I)I"⟩), (1871, Cond.code ⟨"PalmHoursModel", "octet", "(I)I"⟩ cX12_octet 2 (some .int)), (1872, Cond.methodLink "PalmHoursLaw" 144 ⟨"PalmHoursModel", "on", "()Z"⟩), (1873, Cond.instanceMethod ⟨"PalmHoursModel", "on", "()Z"⟩), (1874, Cond.selects "PalmHoursModel" ⟨"PalmHoursModel", "on", "()Z"⟩ ⟨"PalmHoursModel", "on", "()Z"⟩), (1875, Cond.code ⟨"PalmHoursModel", "on", "()Z"⟩ cX12_on 2 (some .boolean))]
theorem b41w2 : pkW lw_tbl 0 b41wl2 = true := by decide +kernel
theorem w1792 : Cond.code ⟨"PalmHoursModel", "odds", "(III)J"⟩ cX12_odds 14 (some .long) ∈ lw_g := pkW_i b41w2 0 rfl
theorem w1794 : Cond.methodLink "PalmHoursLaw" 83 ⟨"PalmHoursModel", "way", "(II)I"⟩ ∈ lw_g := pkW_i b41w2 1 rfl
theorem w1798 : Cond.methodLink "PalmHoursLaw" 87 ⟨"PalmHoursModel", "arrive", "(II)I"⟩ ∈ lw_g := pkW_i b41w2 2 rfl
theorem w1799 : Cond.instanceMethod ⟨"PalmHoursModel", "arrive", "(II)I"⟩ ∈ lw_g := pkW_i b41w2 3 rfl
theorem w1800 : Cond.selects "PalmHoursModel" ⟨"PalmHoursModel", "arrive", "(II)I"⟩ ⟨"PalmHoursModel", "arrive", "(II)I"⟩ ∈ lw_g := pkW_i b41w2 4 rfl
theorem w1801 : Cond.code ⟨"PalmHoursModel", "arrive", "(II)I"⟩ cX12_arrive 4 (some .int) ∈ lw_g := pkW_i b41w2 5 rfl
theorem w1804 : Cond.methodLink "PalmHoursLaw" 91 ⟨"PalmHoursModel", "early", "(I)I"⟩ ∈ lw_g := pkW_i b41w2 6 rfl
theorem w1805 : Cond.instanceMethod ⟨"PalmHoursModel", "early", "(I)I"⟩ ∈ lw_g := pkW_i b41w2 7 rfl
theorem w1806 : Cond.selects "PalmHoursModel" ⟨"PalmHoursModel", "early", "(I)I"⟩ ⟨"PalmHoursModel", "early", "(I)I"⟩ ∈ lw_g := pkW_i b41w2 8 rfl
theorem w1807 : Cond.code ⟨"PalmHoursModel", "early", "(I)I"⟩ cX12_early 6 (some .int) ∈ lw_g := pkW_i b41w2 9 rfl
theorem w1808 : Cond.methodLink "PalmHoursLaw" 95 ⟨"PalmHoursModel", "see", "()I"⟩ ∈ lw_g := pkW_i b41w2 10 rfl
theorem w1809 : Cond.instanceMethod ⟨"PalmHoursModel", "see", "()I"⟩ ∈ lw_g := pkW_i b41w2 11 rfl
theorem w1810 : Cond.selects "PalmHoursModel" ⟨"PalmHoursModel", "see", "()I"⟩ ⟨"PalmHoursModel", "see", "()I"⟩ ∈ lw_g := pkW_i b41w2 12 rfl
theorem w1811 : Cond.code ⟨"PalmHoursModel", "see", "()I"⟩ cX12_see 4 (some .int) ∈ lw_g := pkW_i b41w2 13 rfl
theorem w1812 : Cond.methodLink "PalmHoursLaw" 99 ⟨"PalmHoursModel", "held", "(I)I"⟩ ∈ lw_g := pkW_i b41w2 14 rfl
theorem w1813 : Cond.instanceMethod ⟨"PalmHoursModel", "held", "(I)I"⟩ ∈ lw_g := pkW_i b41w2 15 rfl
theorem w1814 : Cond.selects "PalmHoursModel" ⟨"PalmHoursModel", "held", "(I)I"⟩ ⟨"PalmHoursModel", "held", "(I)I"⟩ ∈ lw_g := pkW_i b41w2 16 rfl
theorem w1815 : Cond.code ⟨"PalmHoursModel", "held", "(I)I"⟩ cX12_held 2 (some .int) ∈ lw_g := pkW_i b41w2 17 rfl
theorem w1820 : Cond.methodLink "PalmHoursLaw" 103 ⟨"PalmHoursModel", "tells", "(II)I"⟩ ∈ lw_g := pkW_i b41w2 18 rfl
theorem w1821 : Cond.instanceMethod ⟨"PalmHoursModel", "tells", "(II)I"⟩ ∈ lw_g := pkW_i b41w2 19 rfl
theorem w1822 : Cond.selects "PalmHoursModel" ⟨"PalmHoursModel", "tells", "(II)I"⟩ ⟨"PalmHoursModel", "tells", "(II)I"⟩ ∈ lw_g := pkW_i b41w2 20 rfl
theorem w1823 : Cond.code ⟨"PalmHoursModel", "tells", "(II)I"⟩ cX12_tells 11 (some .int) ∈ lw_g := pkW_i b41w2 21 rfl
theorem w1824 : Cond.methodLink "PalmHoursLaw" 107 ⟨"PalmHoursModel", "minutes", "(I)I"⟩ ∈ lw_g := pkW_i b41w2 22 rfl
theorem w1825 : Cond.instanceMethod ⟨"PalmHoursModel", "minutes", "(I)I"⟩ ∈ lw_g := pkW_i b41w2 23 rfl
theorem w1826 : Cond.selects "PalmHoursModel" ⟨"PalmHoursModel", "minutes", "(I)I"⟩ ⟨"PalmHoursModel", "minutes", "(I)I"⟩ ∈ lw_g := pkW_i b41w2 24 rfl
theorem w1827 : Cond.code ⟨"PalmHoursModel", "minutes", "(I)I"⟩ cX12_minutes 4 (some .int) ∈ lw_g := pkW_i b41w2 25 rfl
theorem w1832 : Cond.methodLink "PalmHoursLaw" 111 ⟨"PalmHoursModel", "chance", "(I)I"⟩ ∈ lw_g := pkW_i b41w2 26 rfl
theorem w1833 : Cond.instanceMethod ⟨"PalmHoursModel", "chance", "(I)I"⟩ ∈ lw_g := pkW_i b41w2 27 rfl
theorem w1834 : Cond.selects "PalmHoursModel" ⟨"PalmHoursModel", "chance", "(I)I"⟩ ⟨"PalmHoursModel", "chance", "(I)I"⟩ ∈ lw_g := pkW_i b41w2 28 rfl
theorem w1835 : Cond.code ⟨"PalmHoursModel", "chance", "(I)I"⟩ cX12_chance 5 (some .int) ∈ lw_g := pkW_i b41w2 29 rfl
theorem w1844 : Cond.methodLink "PalmHoursLaw" 115 ⟨"PalmHoursModel", "give", "(II)I"⟩ ∈ lw_g := pkW_i b41w2 30 rfl
theorem w1845 : Cond.instanceMethod ⟨"PalmHoursModel", "give", "(II)I"⟩ ∈ lw_g := pkW_i b41w2 31 rfl
theorem w1846 : Cond.selects "PalmHoursModel" ⟨"PalmHoursModel", "give", "(II)I"⟩ ⟨"PalmHoursModel", "give", "(II)I"⟩ ∈ lw_g := pkW_i b41w2 32 rfl
theorem w1847 : Cond.code ⟨"PalmHoursModel", "give", "(II)I"⟩ cX12_give 3 (some .int) ∈ lw_g := pkW_i b41w2 33 rfl
theorem w1848 : Cond.methodLink "PalmHoursLaw" 119 ⟨"PalmHoursModel", "take", "(I)I"⟩ ∈ lw_g := pkW_i b41w2 34 rfl
theorem w1849 : Cond.instanceMethod ⟨"PalmHoursModel", "take", "(I)I"⟩ ∈ lw_g := pkW_i b41w2 35 rfl
theorem w1850 : Cond.selects "PalmHoursModel" ⟨"PalmHoursModel", "take", "(I)I"⟩ ⟨"PalmHoursModel", "take", "(I)I"⟩ ∈ lw_g := pkW_i b41w2 36 rfl
theorem w1851 : Cond.code ⟨"PalmHoursModel", "take", "(I)I"⟩ cX12_take 2 (some .int) ∈ lw_g := pkW_i b41w2 37 rfl
theorem w1852 : Cond.methodLink "PalmHoursLaw" 128 ⟨"PalmHoursModel", "seed", "(I)Z"⟩ ∈ lw_g := pkW_i b41w2 38 rfl
theorem w1853 : Cond.instanceMethod ⟨"PalmHoursModel", "seed", "(I)Z"⟩ ∈ lw_g := pkW_i b41w2 39 rfl
theorem w1854 : Cond.selects "PalmHoursModel" ⟨"PalmHoursModel", "seed", "(I)Z"⟩ ⟨"PalmHoursModel", "seed", "(I)Z"⟩ ∈ lw_g := pkW_i b41w2 40 rfl
theorem w1855 : Cond.code ⟨"PalmHoursModel", "seed", "(I)Z"⟩ cX12_seed 2 (some .boolean) ∈ lw_g := pkW_i b41w2 41 rfl
theorem w1856 : Cond.methodLink "PalmHoursLaw" 132 ⟨"PalmHoursModel", "kept", "(II)I"⟩ ∈ lw_g := pkW_i b41w2 42 rfl
theorem w1857 : Cond.instanceMethod ⟨"PalmHoursModel", "kept", "(II)I"⟩ ∈ lw_g := pkW_i b41w2 43 rfl
theorem w1858 : Cond.selects "PalmHoursModel" ⟨"PalmHoursModel", "kept", "(II)I"⟩ ⟨"PalmHoursModel", "kept", "(II)I"⟩ ∈ lw_g := pkW_i b41w2 44 rfl
theorem w1859 : Cond.code ⟨"PalmHoursModel", "kept", "(II)I"⟩ cX12_kept 3 (some .int) ∈ lw_g := pkW_i b41w2 45 rfl
theorem w1860 : Cond.methodLink "PalmHoursLaw" 136 ⟨"PalmHoursModel", "image", "()I"⟩ ∈ lw_g := pkW_i b41w2 46 rfl
theorem w1861 : Cond.instanceMethod ⟨"PalmHoursModel", "image", "()I"⟩ ∈ lw_g := pkW_i b41w2 47 rfl
theorem w1862 : Cond.selects "PalmHoursModel" ⟨"PalmHoursModel", "image", "()I"⟩ ⟨"PalmHoursModel", "image", "()I"⟩ ∈ lw_g := pkW_i b41w2 48 rfl
theorem w1863 : Cond.code ⟨"PalmHoursModel", "image", "()I"⟩ cX12_image 3 (some .int) ∈ lw_g := pkW_i b41w2 49 rfl
theorem w1868 : Cond.methodLink "PalmHoursLaw" 140 ⟨"PalmHoursModel", "octet", "(I)I"⟩ ∈ lw_g := pkW_i b41w2 50 rfl
theorem w1869 : Cond.instanceMethod ⟨"PalmHoursModel", "octet", "(I)I"⟩ ∈ lw_g := pkW_i b41w2 51 rfl
theorem w1870 : Cond.selects "PalmHoursModel" ⟨"PalmHoursModel", "octet", "(I)I"⟩ ⟨"PalmHoursModel", "octet", "(I)I"⟩ ∈ lw_g := pkW_i b41w2 52 rfl
theorem w1871 : Cond.code ⟨"PalmHoursModel", "octet", "(I)I"⟩ cX12_octet 2 (some .int) ∈ lw_g := pkW_i b41w2 53 rfl
theorem w1872 : Cond.methodLink "PalmHoursLaw" 144 ⟨"PalmHoursModel", "on", "()Z"⟩ ∈ lw_g := pkW_i b41w2 54 rfl
theorem w1873 : Cond.instanceMethod ⟨"PalmHoursModel", "on", "()Z"⟩ ∈ lw_g := pkW_i b41w2 55 rfl
theorem w1874 : Cond.selects "PalmHoursModel" ⟨"PalmHoursModel", "on", "()Z"⟩ ⟨"PalmHoursModel", "on", "()Z"⟩ ∈ lw_g := pkW_i b41w2 56 rfl
theorem w1875 : Cond.code ⟨"PalmHoursModel", "on", "()Z"⟩ cX12_on 2 (some .boolean) ∈ lw_g := pkW_i b41w2 57 rfl
theorem mdX11_alike : MD yX11_alike cX11_alike 5 (some .int) 2 := ⟨w986, w120, by decide +kernel, by decide⟩
theorem mdX11_arrive : MD yX11_arrive cX11_arrive 4 (some .int) 2 := ⟨w1068, w120, by decide +kernel, by decide⟩
theorem mdX11_chance : MD yX11_chance cX11_chance 4 (some .int) 1 := ⟨w1149, w120, by decide +kernel, by decide⟩
theorem mdX11_corner : MD yX11_corner cX11_corner 3 (some .int) 2 := ⟨w943, w120, by decide +kernel, by decide⟩
theorem mdX11_doing : MD yX11_doing cX11_doing 3 (some .int) 2 := ⟨w957, w120, by decide +kernel, by decide⟩
theorem mdX11_early : MD yX11_early cX11_early 4 (some .int) 1 := ⟨w1072, w120, by decide +kernel, by decide⟩
theorem mdX11_end : MD yX11_end cX11_end 2 (some .boolean) 1 := ⟨w682, w120, by decide +kernel, by decide⟩
theorem mdX11_evening : MD yX11_evening cX11_evening 7 (some .int) 2 := ⟨w1026, w120, by decide +kernel, by decide⟩
theorem mdX11_fault : MD yX11_fault cX11_fault 2 (some .int) 1 := ⟨w907, w120, by decide +kernel, by decide⟩
theorem mdX11_feed : MD yX11_feed cX11_feed 6 (some .int) 5 := ⟨w666, w120, by decide +kernel, by decide⟩
theorem mdX11_give : MD yX11_give cX11_give 3 (some .int) 2 := ⟨w1165, w120, by decide +kernel, by decide⟩
theorem mdX11_has : MD yX11_has cX11_has 2 (some .int) 1 := ⟨w911, w120, by decide +kernel, by decide⟩
theorem mdX11_held : MD yX11_held cX11_held 2 (some .int) 1 := ⟨w1097, w120, by decide +kernel, by decide⟩
theorem mdX11_image : MD yX11_image cX11_image 1 (some .int) 0 := ⟨w1197, w120, by decide +kernel, by decide⟩
theorem mdX11_kept : MD yX11_kept cX11_kept 3 (some .int) 2 := ⟨w1193, w120, by decide +kernel, by decide⟩
theorem mdX11_later : MD yX11_later cX11_later 3 (some .int) 2 := ⟨w961, w120, by decide +kernel, by decide⟩
theorem mdX11_letter : MD yX11_letter cX11_letter 4 (some .int) 3 := ⟨w923, w120, by decide +kernel, by decide⟩
theorem mdX11_minutes : MD yX11_minutes cX11_minutes 4 (some .int) 1 := ⟨w1127, w120, by decide +kernel, by decide⟩
theorem mdX11_octet : MD yX11_octet cX11_octet 2 (some .int) 1 := ⟨w1212, w120, by decide +kernel, by decide⟩
theorem mdX11_odds : MD yX11_odds cX11_odds 6 (some .long) 3 := ⟨w1034, w120, by decide +kernel, by decide⟩
theorem mdX11_on : MD yX11_on cX11_on 2 (some .boolean) 0 := ⟨w1216, w120, by decide +kernel, by decide⟩
theorem mdX11_plan : MD yX11_plan cX11_plan 5 (some .int) 3 := ⟨w990, w120, by decide +kernel, by decide⟩
theorem mdX11_see : MD yX11_see cX11_see 2 (some .int) 0 := ⟨w1087, w120, by decide +kernel, by decide⟩
theorem mdX11_seed : MD yX11_seed cX11_seed 2 (some .boolean) 1 := ⟨w1189, w120, by decide +kernel, by decide⟩
theorem mdX11_status : MD yX11_status cX11_status 2 (some .int) 1 := ⟨w1235, w120, by decide +kernel, by decide⟩
theorem mdX11_take : MD yX11_take cX11_take 2 (some .int) 1 := ⟨w1173, w120, by decide +kernel, by decide⟩
theorem mdX11_tells : MD yX11_tells cX11_tells 9 (some .int) 2 := ⟨w1117, w120, by decide +kernel, by decide⟩
theorem mdX11_thing : MD yX11_thing cX11_thing 3 (some .int) 2 := ⟨w939, w120, by decide +kernel, by decide⟩
theorem mdX11_town : MD yX11_town cX11_town 3 (some .int) 0 := ⟨w686, w120, by decide +kernel, by decide⟩
theorem mdX11_undo : MD yX11_undo cX11_undo 1 (some .boolean) 0 := ⟨w1177, w120, by decide +kernel, by decide⟩
theorem mdX11_way : MD yX11_way cX11_way 3 (some .int) 2 := ⟨w1053, w120, by decide +kernel, by decide⟩
theorem mdX11_when : MD yX11_when cX11_when 4 (some .int) 1 := ⟨w982, w120, by decide +kernel, by decide⟩
theorem mdX12_alike : MD yX12_alike cX12_alike 4 (some .int) 2 := ⟨w1776, w137, by decide +kernel, by decide⟩
theorem mdX12_arrive : MD yX12_arrive cX12_arrive 4 (some .int) 2 := ⟨w1801, w137, by decide +kernel, by decide⟩
theorem mdX12_chance : MD yX12_chance cX12_chance 5 (some .int) 1 := ⟨w1835, w137, by decide +kernel, by decide⟩
theorem mdX12_corner : MD yX12_corner cX12_corner 3 (some .int) 2 := ⟨w1732, w137, by decide +kernel, by decide⟩
theorem mdX12_doing : MD yX12_doing cX12_doing 3 (some .int) 2 := ⟨w1740, w137, by decide +kernel, by decide⟩
theorem mdX12_early : MD yX12_early cX12_early 6 (some .int) 1 := ⟨w1807, w137, by decide +kernel, by decide⟩
theorem mdX12_end : MD yX12_end cX12_end 2 (some .boolean) 1 := ⟨w1464, w137, by decide +kernel, by decide⟩
theorem mdX12_evening : MD yX12_evening cX12_evening 10 (some .int) 2 := ⟨w1788, w137, by decide +kernel, by decide⟩
theorem mdX12_fault : MD yX12_fault cX12_fault 2 (some .int) 1 := ⟨w1692, w137, by decide +kernel, by decide⟩
theorem mdX12_feed : MD yX12_feed cX12_feed 6 (some .int) 5 := ⟨w1452, w137, by decide +kernel, by decide⟩
theorem mdX12_give : MD yX12_give cX12_give 3 (some .int) 2 := ⟨w1847, w137, by decide +kernel, by decide⟩
theorem mdX12_has : MD yX12_has cX12_has 4 (some .int) 1 := ⟨w1712, w137, by decide +kernel, by decide⟩
theorem mdX12_held : MD yX12_held cX12_held 2 (some .int) 1 := ⟨w1815, w137, by decide +kernel, by decide⟩
theorem mdX12_image : MD yX12_image cX12_image 3 (some .int) 0 := ⟨w1863, w137, by decide +kernel, by decide⟩
theorem mdX12_kept : MD yX12_kept cX12_kept 3 (some .int) 2 := ⟨w1859, w137, by decide +kernel, by decide⟩
theorem mdX12_letter : MD yX12_letter cX12_letter 9 (some .int) 3 := ⟨w1719, w137, by decide +kernel, by decide⟩
theorem mdX12_minutes : MD yX12_minutes cX12_minutes 4 (some .int) 1 := ⟨w1827, w137, by decide +kernel, by decide⟩
theorem mdX12_octet : MD yX12_octet cX12_octet 2 (some .int) 1 := ⟨w1871, w137, by decide +kernel, by decide⟩
theorem mdX12_odds : MD yX12_odds cX12_odds 14 (some .long) 3 := ⟨w1792, w137, by decide +kernel, by decide⟩
theorem mdX12_on : MD yX12_on cX12_on 2 (some .boolean) 0 := ⟨w1875, w137, by decide +kernel, by decide⟩
theorem mdX12_plan : MD yX12_plan cX12_plan 10 (some .int) 3 := ⟨w1780, w137, by decide +kernel, by decide⟩
theorem mdX12_see : MD yX12_see cX12_see 4 (some .int) 0 := ⟨w1811, w137, by decide +kernel, by decide⟩
theorem mdX12_seed : MD yX12_seed cX12_seed 2 (some .boolean) 1 := ⟨w1855, w137, by decide +kernel, by decide⟩
theorem mdX12_status : MD yX12_status cX12_status 2 (some .int) 1 := ⟨w1696, w137, by decide +kernel, by decide⟩
theorem mdX12_take : MD yX12_take cX12_take 2 (some .int) 1 := ⟨w1851, w137, by decide +kernel, by decide⟩
theorem mdX12_tells : MD yX12_tells cX12_tells 11 (some .int) 2 := ⟨w1823, w137, by decide +kernel, by decide⟩
theorem mdX12_thing : MD yX12_thing cX12_thing 3 (some .int) 2 := ⟨w1724, w137, by decide +kernel, by decide⟩
theorem mdX12_town : MD yX12_town cX12_town 3 (some .int) 0 := ⟨w1468, w137, by decide +kernel, by decide⟩
theorem mdX12_undo : MD yX12_undo cX12_undo 1 (some .boolean) 0 := ⟨w1700, w137, by decide +kernel, by decide⟩
theorem mdX12_when : MD yX12_when cX12_when 3 (some .int) 1 := ⟨w1772, w137, by decide +kernel, by decide⟩
theorem mvX11_alike : MV yX11_alike := ⟨w984, w985⟩
theorem mvX11_arrive : MV yX11_arrive := ⟨w1066, w1067⟩
theorem mvX11_chance : MV yX11_chance := ⟨w1147, w1148⟩
theorem mvX11_corner : MV yX11_corner := ⟨w941, w942⟩
theorem mvX11_doing : MV yX11_doing := ⟨w955, w956⟩
theorem mvX11_early : MV yX11_early := ⟨w1070, w1071⟩
theorem mvX11_end : MV yX11_end := ⟨w680, w681⟩
theorem mvX11_evening : MV yX11_evening := ⟨w1024, w1025⟩
theorem mvX11_fault : MV yX11_fault := ⟨w905, w906⟩
theorem mvX11_feed : MV yX11_feed := ⟨w664, w665⟩
theorem mvX11_give : MV yX11_give := ⟨w1163, w1164⟩
theorem mvX11_has : MV yX11_has := ⟨w909, w910⟩
theorem mvX11_held : MV yX11_held := ⟨w1095, w1096⟩
theorem mvX11_image : MV yX11_image := ⟨w1195, w1196⟩
theorem mvX11_kept : MV yX11_kept := ⟨w1191, w1192⟩
theorem mvX11_later : MV yX11_later := ⟨w959, w960⟩
theorem mvX11_letter : MV yX11_letter := ⟨w921, w922⟩
theorem mvX11_minutes : MV yX11_minutes := ⟨w1125, w1126⟩
theorem mvX11_octet : MV yX11_octet := ⟨w1210, w1211⟩
theorem mvX11_odds : MV yX11_odds := ⟨w1032, w1033⟩
theorem mvX11_on : MV yX11_on := ⟨w1214, w1215⟩
theorem mvX11_plan : MV yX11_plan := ⟨w988, w989⟩
theorem mvX11_see : MV yX11_see := ⟨w1085, w1086⟩
theorem mvX11_seed : MV yX11_seed := ⟨w1187, w1188⟩
theorem mvX11_status : MV yX11_status := ⟨w1233, w1234⟩
theorem mvX11_take : MV yX11_take := ⟨w1171, w1172⟩
theorem mvX11_tells : MV yX11_tells := ⟨w1115, w1116⟩
theorem mvX11_thing : MV yX11_thing := ⟨w937, w938⟩
theorem mvX11_town : MV yX11_town := ⟨w684, w685⟩
theorem mvX11_undo : MV yX11_undo := ⟨w1175, w1176⟩
theorem mvX11_way : MV yX11_way := ⟨w1051, w1052⟩
theorem mvX11_when : MV yX11_when := ⟨w980, w981⟩
theorem mvX12_alike : MV yX12_alike := ⟨w1774, w1775⟩
theorem mvX12_arrive : MV yX12_arrive := ⟨w1799, w1800⟩
theorem mvX12_chance : MV yX12_chance := ⟨w1833, w1834⟩
theorem mvX12_corner : MV yX12_corner := ⟨w1730, w1731⟩
theorem mvX12_doing : MV yX12_doing := ⟨w1738, w1739⟩
theorem mvX12_early : MV yX12_early := ⟨w1805, w1806⟩
theorem mvX12_end : MV yX12_end := ⟨w1462, w1463⟩
theorem mvX12_evening : MV yX12_evening := ⟨w1786, w1787⟩
theorem mvX12_fault : MV yX12_fault := ⟨w1690, w1691⟩
theorem mvX12_feed : MV yX12_feed := ⟨w1450, w1451⟩
theorem mvX12_give : MV yX12_give := ⟨w1845, w1846⟩
theorem mvX12_has : MV yX12_has := ⟨w1710, w1711⟩
theorem mvX12_held : MV yX12_held := ⟨w1813, w1814⟩
theorem mvX12_image : MV yX12_image := ⟨w1861, w1862⟩
theorem mvX12_kept : MV yX12_kept := ⟨w1857, w1858⟩
theorem mvX12_letter : MV yX12_letter := ⟨w1717, w1718⟩
theorem mvX12_minutes : MV yX12_minutes := ⟨w1825, w1826⟩
theorem mvX12_octet : MV yX12_octet := ⟨w1869, w1870⟩
theorem mvX12_odds : MV yX12_odds := ⟨w1790, w1791⟩
theorem mvX12_on : MV yX12_on := ⟨w1873, w1874⟩
theorem mvX12_plan : MV yX12_plan := ⟨w1778, w1779⟩
theorem mvX12_see : MV yX12_see := ⟨w1809, w1810⟩
theorem mvX12_seed : MV yX12_seed := ⟨w1853, w1854⟩
theorem mvX12_status : MV yX12_status := ⟨w1694, w1695⟩
theorem mvX12_take : MV yX12_take := ⟨w1849, w1850⟩
theorem mvX12_tells : MV yX12_tells := ⟨w1821, w1822⟩
theorem mvX12_thing : MV yX12_thing := ⟨w1722, w1723⟩
theorem mvX12_town : MV yX12_town := ⟨w1466, w1467⟩
theorem mvX12_undo : MV yX12_undo := ⟨w1698, w1699⟩
theorem mvX12_when : MV yX12_when := ⟨w1770, w1771⟩
/-! THE LAW: both worlds side by side -/
def OKl (p : Program) (s : State) (m : MethodId) (meth : Method) (c : Code) (b L : Nat) (xs : Nat → Int32) (D : va_G) (cy : Nat → ClassId) (ax ay : Nat → Nat) : Prop :=
  p.tables.exec = Jvm.exec ∧ c.code = code ∧ c.maxLocals = 4 ∧ s.vm.findClass R_law = some m.cls ∧ (∀ w ∈ lw_g, w.before #[Value.ref b] s = true) ∧ va_K D vwCl (tyl cy) s ∧ Inj LX ax ∧ Inj LY ay ∧ (∀ i j, i < 90 → j < 44 → ax i ≠ ay j) ∧ (∀ i, i < 90 → s.heap.size ≤ ax i) ∧ (∀ j, j < 44 → s.heap.size ≤ ay j) ∧ va_X b L xs s s.heap ∧ b < s.heap.size ∧ meth.locks = false ∧ meth.sig.returnType = ret
def LB (p : Program) (l : Launch) (e : Env) (s : State) (m : MethodId) (below : List Frame) (meth : Method) (c : Code) (b : Nat) (D : va_G) (cy : Nat → ClassId) (ax ay : Nat → Nat) (cells slots pc : Nat) (lv : List (Nat × Value)) (st : List Value) (MX MY : Mem) : Prop :=
  ∀ (H : Heap) (locs : List Loc) (ls : Array Slot), WD LX D cy ax MX H → WD LY D cy ay MY H → va_S (fun q => s.heap.size ≤ q) s.heap H locs → lv_has ls 4 lv → W p l e room_1 s m #[Value.ref b] below meth c H locs cells slots (lw_Z below #[Value.ref b] s) (F0 m pc ls st)
section LROWS
variable {p : Program} {l : Launch} {e : Env} {s : State} {m : MethodId} {below : List Frame} {meth : Method} {c : Code} {b L : Nat} {xs : Nat → Int32} {D : va_G} {cy : Nat → ClassId} {ax ay : Nat → Nat} {cells slots pc : Nat} {lv : List (Nat × Value)} {st : List Value} {MX MY : Mem}
theorem l_iload_n (hO : OKl p s m meth c b L xs D cy ax ay) {k : Fin 4} {i : Nat} {x : Int32} (hdg : decode code pc = .ok (.iload_n k, 1)) (j : Nat) (hj : lv[j]? = some (i, .int x)) (hi : (k : Nat) = i) (K : LB p l e s m below meth c b D cy ax ay cells slots (pc + 1) lv (.int x :: st) MX MY) : LB p l e s m below meth c b D cy ax ay cells slots pc lv st MX MY := fun H locs ls hX hY hS hl => lv_iload_n hO.1 hO.2.1 hdg hi (lv_at hl j hj) (K H locs ls hX hY hS hl)
theorem l_aload_n (hO : OKl p s m meth c b L xs D cy ax ay) {k : Fin 4} {i : Nat} {x : Nat} (hdg : decode code pc = .ok (.aload_n k, 1)) (j : Nat) (hj : lv[j]? = some (i, .ref x)) (hi : (k : Nat) = i) (K : LB p l e s m below meth c b D cy ax ay cells slots (pc + 1) lv (.ref x :: st) MX MY) : LB p l e s m below meth c b D cy ax ay cells slots pc lv st MX MY := fun H locs ls hX hY hS hl => lv_aload_n hO.1 hO.2.1 hdg hi (lv_at hl j hj) (K H locs ls hX hY hS hl)
theorem l_iconst (hO : OKl p s m meth c b L xs D cy ax ay) {n : Int} {v : Int32} (hdg : decode code pc = .ok (.iconst n, 1)) (hv : Int32.ofInt n = v) (K : LB p l e s m below meth c b D cy ax ay cells slots (pc + 1) lv (.int v :: st) MX MY) : LB p l e s m below meth c b D cy ax ay cells slots pc lv st MX MY := fun H locs ls hX hY hS hl => lv_iconst hO.1 hO.2.1 hdg hv (K H locs ls hX hY hS hl)
theorem l_bipush (hO : OKl p s m meth c b L xs D cy ax ay) {n : Int} {v : Int32} (hdg : decode code pc = .ok (.bipush n, 2)) (hv : (Int8.ofInt n).toInt32 = v) (K : LB p l e s m below meth c b D cy ax ay cells slots (pc + 2) lv (.int v :: st) MX MY) : LB p l e s m below meth c b D cy ax ay cells slots pc lv st MX MY := fun H locs ls hX hY hS hl => lv_bipush hO.1 hO.2.1 hdg hv (K H locs ls hX hY hS hl)
theorem l_iadd (hO : OKl p s m meth c b L xs D cy ax ay) {x y v : Int32} (hdg : decode code pc = .ok (.iadd, 1)) (hv : x + y = v) (K : LB p l e s m below meth c b D cy ax ay cells slots (pc + 1) lv (.int v :: st) MX MY) : LB p l e s m below meth c b D cy ax ay cells slots pc lv (.int y :: .int x :: st) MX MY := fun H locs ls hX hY hS hl => lv_iadd hO.1 hO.2.1 hdg (by rw [hv]; exact K H locs ls hX hY hS hl)
theorem l_isub (hO : OKl p s m meth c b L xs D cy ax ay) {x y v : Int32} (hdg : decode code pc = .ok (.isub, 1)) (hv : x - y = v) (K : LB p l e s m below meth c b D cy ax ay cells slots (pc + 1) lv (.int v :: st) MX MY) : LB p l e s m below meth c b D cy ax ay cells slots pc lv (.int y :: .int x :: st) MX MY := fun H locs ls hX hY hS hl => lv_isub hO.1 hO.2.1 hdg (by rw [hv]; exact K H locs ls hX hY hS hl)
theorem l_iand (hO : OKl p s m meth c b L xs D cy ax ay) {x y v : Int32} (hdg : decode code pc = .ok (.iand, 1)) (hv : x &&& y = v) (K : LB p l e s m below meth c b D cy ax ay cells slots (pc + 1) lv (.int v :: st) MX MY) : LB p l e s m below meth c b D cy ax ay cells slots pc lv (.int y :: .int x :: st) MX MY := fun H locs ls hX hY hS hl => lv_iand hO.1 hO.2.1 hdg (by rw [hv]; exact K H locs ls hX hY hS hl)
theorem l_sld (hO : OKl p s m meth c b L xs D cy ax ay) {n : Nat} {v : Int32} (hn : n < L) (hL : L < 2 ^ 31) (hv : xs n = v) (hdg : decode code pc = .ok (.iaload, 1)) (K : LB p l e s m below meth c b D cy ax ay cells slots (pc + 1) lv (.int v :: st) MX MY) : LB p l e s m below meth c b D cy ax ay cells slots pc lv (.int (nI n) :: .ref b :: st) MX MY := fun H locs ls hX hY hS hl => by
  refine va_sld hO.1 hO.2.1 hO.2.2.2.2.2.2.2.2.2.2.2.1 hO.2.2.2.2.2.2.2.2.2.2.2.2.1 (Nat.not_le.mpr hO.2.2.2.2.2.2.2.2.2.2.2.2.1) hS (vp_in_nI hn hL) hdg ?_
  rw [nI_clamp (by omega), hv]
  exact K H locs ls hX hY hS hl
theorem l_slen (hO : OKl p s m meth c b L xs D cy ax ay) (hdg : decode code pc = .ok (.arraylength, 1)) (K : LB p l e s m below meth c b D cy ax ay cells slots (pc + 1) lv (.int (nI L) :: st) MX MY) : LB p l e s m below meth c b D cy ax ay cells slots pc lv (.ref b :: st) MX MY := fun H locs ls hX hY hS hl => va_slen hO.1 hO.2.1 hO.2.2.2.2.2.2.2.2.2.2.2.1 hO.2.2.2.2.2.2.2.2.2.2.2.2.1 (Nat.not_le.mpr hO.2.2.2.2.2.2.2.2.2.2.2.2.1) hS hdg (K H locs ls hX hY hS hl)
theorem l_goto (hO : OKl p s m meth c b L xs D cy ax ay) {off : Int} {tgt : Nat} (hdg : decode code pc = .ok (.goto off, 3)) (ht : (pc : Int) + off = (tgt : Int)) (K : LB p l e s m below meth c b D cy ax ay cells slots tgt lv st MX MY) : LB p l e s m below meth c b D cy ax ay cells slots pc lv st MX MY := fun H locs ls hX hY hS hl => lv_goto hO.1 hO.2.1 hdg ht (K H locs ls hX hY hS hl)
theorem l_icmpgt (hO : OKl p s m meth c b L xs D cy ax ay) {x y : Int32} {off : Int} {tgt : Nat} (hdg : decode code pc = .ok (.if_icmp .gt off, 3)) (ht : (pc : Int) + off = (tgt : Int)) (kt : y < x → LB p l e s m below meth c b D cy ax ay cells slots tgt lv st MX MY) (kf : ¬ y < x → LB p l e s m below meth c b D cy ax ay cells slots (pc + 3) lv st MX MY) : LB p l e s m below meth c b D cy ax ay cells slots pc lv (.int y :: .int x :: st) MX MY := fun H locs ls hX hY hS hl => lv_icmp_gt hO.1 hO.2.1 hdg ht (fun h => kt h H locs ls hX hY hS hl) (fun h => kf h H locs ls hX hY hS hl)
theorem l_icmpeq (hO : OKl p s m meth c b L xs D cy ax ay) {x y : Int32} {off : Int} {tgt : Nat} (hdg : decode code pc = .ok (.if_icmp .eq off, 3)) (ht : (pc : Int) + off = (tgt : Int)) (h : x = y) (K : LB p l e s m below meth c b D cy ax ay cells slots tgt lv st MX MY) : LB p l e s m below meth c b D cy ax ay cells slots pc lv (.int y :: .int x :: st) MX MY := fun H locs ls hX hY hS hl => lv_icmp_eq hO.1 hO.2.1 hdg ht (fun _ => K H locs ls hX hY hS hl) (fun h9 => absurd h h9)
theorem l_lcmpeq (hO : OKl p s m meth c b L xs D cy ax ay) {x y : Int64} {off : Int} {tgt : Nat} (hdg : decode code pc = .ok (.lcmp, 1)) (hd2 : decode code (pc + 1) = .ok (.ifCond .eq off, 3)) (ht : ((pc + 1 : Nat) : Int) + off = (tgt : Int)) (h : x = y) (K : LB p l e s m below meth c b D cy ax ay cells slots tgt lv st MX MY) : LB p l e s m below meth c b D cy ax ay cells slots pc lv (.long y :: .long x :: st) MX MY := fun H locs ls hX hY hS hl => W.lcmp hO.1 hO.2.1 hdg (lv_if_eq hO.1 hO.2.1 hd2 ht (fun _ => K H locs ls hX hY hS hl) (fun h9 => absurd (by subst h; unfold lg_cmp; rw [if_neg (by exact Int64.lt_irrefl), if_pos rfl]) h9))
theorem l_pop (hO : OKl p s m meth c b L xs D cy ax ay) {x : Int32} (hdg : decode code pc = .ok (.pop, 1)) (K : LB p l e s m below meth c b D cy ax ay cells slots (pc + 1) lv st MX MY) : LB p l e s m below meth c b D cy ax ay cells slots pc lv (.int x :: st) MX MY := fun H locs ls hX hY hS hl => lv_pop hO.1 hO.2.1 hdg rfl (K H locs ls hX hY hS hl)
theorem l_pop2 (hO : OKl p s m meth c b L xs D cy ax ay) {x : Int64} (hdg : decode code pc = .ok (.pop2, 1)) (K : LB p l e s m below meth c b D cy ax ay cells slots (pc + 1) lv st MX MY) : LB p l e s m below meth c b D cy ax ay cells slots pc lv (.long x :: st) MX MY := fun H locs ls hX hY hS hl => lv_pop2_2 hO.1 hO.2.1 hdg rfl (K H locs ls hX hY hS hl)
theorem l_iinc (hO : OKl p s m meth c b L xs D cy ax ay) {i : Nat} {n : Int} {x v : Int32} {lv' : List (Nat × Value)} (hdg : decode code pc = .ok (.iinc i n, 3)) (j : Nat) (hj : lv[j]? = some (i, .int x)) (hv : x + Int32.ofInt n = v) (hn : i < 4) (hlv : (i, Value.int v) :: lv.filter (fun q => !(q.1 == i) && !(q.1 + 1 == i && q.2.category == 2)) = lv') (K : LB p l e s m below meth c b D cy ax ay cells slots (pc + 3) lv' st MX MY) : LB p l e s m below meth c b D cy ax ay cells slots pc lv st MX MY := fun H locs ls hX hY hS hl => lv_iinc hO.1 hO.2.1 hdg hl hj hv hn hlv (fun ls' hl' => K H locs ls' hX hY hS hl')
theorem l_tab (hO : OKl p s m meth c b L xs D cy ax ay) {dflt lo hi : Int} {offs : Array Int} {len : Nat} {x : Int32} {off : Int} {tgt : Nat} (hdg : decode code pc = .ok (.tableswitch dflt lo hi offs, len)) (h1 : ¬ x.toInt < lo) (h2 : ¬ hi < x.toInt) (ho : offs[(x.toInt - lo).toNat]? = some off) (ht : (pc : Int) + off = (tgt : Int)) (K : LB p l e s m below meth c b D cy ax ay cells slots tgt lv st MX MY) : LB p l e s m below meth c b D cy ax ay cells slots pc lv (.int x :: st) MX MY := fun H locs ls hX hY hS hl => lv_tableIn hO.1 hO.2.1 hdg h1 h2 ho ht (K H locs ls hX hY hS hl)
theorem l_sub {lv' : List (Nat × Value)} (js : List Nat) (h : js.filterMap (fun j => lv[j]?) = lv') (K : LB p l e s m below meth c b D cy ax ay cells slots pc lv' st MX MY) : LB p l e s m below meth c b D cy ax ay cells slots pc lv st MX MY := fun H locs ls hX hY hS hl => K H locs ls hX hY hS (lv_sub hl js h)
theorem l_ret (hO : OKl p s m meth c b L xs D cy ax ay) (hc : cells ≤ 600000) (hs : slots ≤ 7302250) (hdg : decode code pc = .ok (.ireturn, 1)) : LB p l e s m below meth c b D cy ax ay cells slots pc lv [.int 1] MX MY := fun H locs ls hX hY hS hl => va_forget (fun q hq => hS.2.2 q hq) (W.widen (k := 600000) (n := 7302250) hc hs (lw_ret hO.1 hO.2.1 hO.2.2.2.2.2.2.2.2.2.2.2.2.2.2 hO.2.2.2.2.2.2.2.2.2.2.2.2.2.1 hdg))
theorem l_callXI (hO : OKl p s m meth c b L xs D cy ax ay) {y : MethodName} {bytes : ByteArray} {maxL n d2 idx : Nat} {rt2 : Option FieldType} {As : List Value} {o1 : Option (Int32 × Mem)} {z : Int32 × Mem} (hz : o1 = some z) (hM : MD y bytes maxL rt2 n) (hV : MV y) (hcC : y.cls = RX11) (hlk : Cond.methodLink R_law idx y ∈ lw_g) (hC : CT l LX D cy ax y bytes maxL rt2 d2 (QI LX D cy ax) (.ref (ax 0) :: As) MX o1) (hdd : d2 ≤ 1000) (hn : As.length = n) {stk : List Value} (hst : stk = As.reverse ++ .ref (ax 0) :: st) (hroom : (st.map fun v => v.category).sum ≤ 8) (hcells : cells ≤ 600000) (hslots : slots ≤ 7302250) (hdg : decode code pc = .ok (.invokevirtual idx, 3)) (K : LB p l e s m below meth c b D cy ax ay cells slots (pc + 3) lv (.int z.1 :: st) z.2 MY) : LB p l e s m below meth c b D cy ax ay cells slots pc lv stk MX MY := fun H locs ls hX hY hS hl => by
  subst hst
  have hxA : ∀ q, xA LX ax q → s.heap.size ≤ q := fun q h => by
    obtain ⟨k9, hk9, rfl⟩ := h
    exact hO.2.2.2.2.2.2.2.2.2.1 k9 hk9
  refine va_calli (va_runV (C := y.cls) (As := As) (rest := st) ⟨hO.1, hO.2.1, hO.2.2.1, hO.2.2.2.1, hO.2.2.2.2.1⟩ (hC z hz) ⟨callB_of n hO.2.2.2.2.1 (gd_all hM) rfl rfl rfl (hO.2.2.2.2.1 _ hM.2.1) (hO.2.2.2.2.1 _ hlk) hM.2.2.1 ⟨by show d2 + 1 ≤ 2048; omega, by have := hM.2.2.2; show 8 + (maxL + 11) + 64 * d2 ≤ 84000; omega⟩, hO.2.2.2.2.1 _ hV.1, hO.2.2.2.2.1 _ hV.2⟩ ⟨WT_blind, by rw [hcC]; exact va_recv hO.2.2.2.2.2.1 hX.1 (ci := 11) rfl (q0 := 0) (by rw [wl_get (by decide), cE_obj (show isK LX 0 11 from ⟨rfl, by decide⟩) (by decide)]), fun U hU hw => ⟨rfl, ⟨by rw [hU]; exact hX.1, hX.2⟩, va_K.moved hw.alike hO.2.2.2.2.2.1⟩⟩ rfl hn hl.1 rfl (lv_room hroom) hdg ⟨hcells, hslots⟩) hS (fun q _ h => hxA q h) hxA (fun v u t H1 locs1 ht hvm hw hB hzz hk hS1 => ?_)
  have hw2 : z = (v, u) := hw.symm
  subst hw2
  exact K H1 locs1 ls ⟨by have := hB.1.1; rw [ht] at this; exact this, hB.1.2⟩ ⟨hY.1.kept (fun k9 x9 hx9 => hk x9.1 ((hY.1 k9 x9 hx9).lt) (fun h => by obtain ⟨i9, hi9, e9⟩ := h; obtain ⟨hk9, rfl⟩ := wl_at hx9; exact hO.2.2.2.2.2.2.2.2.1 i9 k9 hi9 hk9 e9.symm)), hY.2⟩ hS1 hl
theorem l_callXL (hO : OKl p s m meth c b L xs D cy ax ay) {y : MethodName} {bytes : ByteArray} {maxL n d2 idx : Nat} {rt2 : Option FieldType} {As : List Value} {o1 : Option (Int64 × Mem)} {z : Int64 × Mem} (hz : o1 = some z) (hM : MD y bytes maxL rt2 n) (hV : MV y) (hcC : y.cls = RX11) (hlk : Cond.methodLink R_law idx y ∈ lw_g) (hC : CT l LX D cy ax y bytes maxL rt2 d2 (QL LX D cy ax) (.ref (ax 0) :: As) MX o1) (hdd : d2 ≤ 1000) (hn : As.length = n) {stk : List Value} (hst : stk = As.reverse ++ .ref (ax 0) :: st) (hroom : (st.map fun v => v.category).sum ≤ 8) (hcells : cells ≤ 600000) (hslots : slots ≤ 7302250) (hdg : decode code pc = .ok (.invokevirtual idx, 3)) (K : LB p l e s m below meth c b D cy ax ay cells slots (pc + 3) lv (.long z.1 :: st) z.2 MY) : LB p l e s m below meth c b D cy ax ay cells slots pc lv stk MX MY := fun H locs ls hX hY hS hl => by
  subst hst
  have hxA : ∀ q, xA LX ax q → s.heap.size ≤ q := fun q h => by
    obtain ⟨k9, hk9, rfl⟩ := h
    exact hO.2.2.2.2.2.2.2.2.2.1 k9 hk9
  refine va_calll (va_runV (C := y.cls) (As := As) (rest := st) ⟨hO.1, hO.2.1, hO.2.2.1, hO.2.2.2.1, hO.2.2.2.2.1⟩ (hC z hz) ⟨callB_of n hO.2.2.2.2.1 (gd_all hM) rfl rfl rfl (hO.2.2.2.2.1 _ hM.2.1) (hO.2.2.2.2.1 _ hlk) hM.2.2.1 ⟨by show d2 + 1 ≤ 2048; omega, by have := hM.2.2.2; show 8 + (maxL + 11) + 64 * d2 ≤ 84000; omega⟩, hO.2.2.2.2.1 _ hV.1, hO.2.2.2.2.1 _ hV.2⟩ ⟨WT_blind, by rw [hcC]; exact va_recv hO.2.2.2.2.2.1 hX.1 (ci := 11) rfl (q0 := 0) (by rw [wl_get (by decide), cE_obj (show isK LX 0 11 from ⟨rfl, by decide⟩) (by decide)]), fun U hU hw => ⟨rfl, ⟨by rw [hU]; exact hX.1, hX.2⟩, va_K.moved hw.alike hO.2.2.2.2.2.1⟩⟩ rfl hn hl.1 rfl (lv_room hroom) hdg ⟨hcells, hslots⟩) hS (fun q _ h => hxA q h) hxA (fun v u t H1 locs1 ht hvm hw hB hzz hk hS1 => ?_)
  have hw2 : z = (v, u) := hw.symm
  subst hw2
  exact K H1 locs1 ls ⟨by have := hB.1.1; rw [ht] at this; exact this, hB.1.2⟩ ⟨hY.1.kept (fun k9 x9 hx9 => hk x9.1 ((hY.1 k9 x9 hx9).lt) (fun h => by obtain ⟨i9, hi9, e9⟩ := h; obtain ⟨hk9, rfl⟩ := wl_at hx9; exact hO.2.2.2.2.2.2.2.2.1 i9 k9 hi9 hk9 e9.symm)), hY.2⟩ hS1 hl
theorem l_callYI (hO : OKl p s m meth c b L xs D cy ax ay) {y : MethodName} {bytes : ByteArray} {maxL n d2 idx : Nat} {rt2 : Option FieldType} {As : List Value} {o1 : Option (Int32 × Mem)} {z : Int32 × Mem} (hz : o1 = some z) (hM : MD y bytes maxL rt2 n) (hV : MV y) (hcC : y.cls = RX12) (hlk : Cond.methodLink R_law idx y ∈ lw_g) (hC : CT l LY D cy ay y bytes maxL rt2 d2 (QI LY D cy ay) (.ref (ay 0) :: As) MY o1) (hdd : d2 ≤ 1000) (hn : As.length = n) {stk : List Value} (hst : stk = As.reverse ++ .ref (ay 0) :: st) (hroom : (st.map fun v => v.category).sum ≤ 8) (hcells : cells ≤ 600000) (hslots : slots ≤ 7302250) (hdg : decode code pc = .ok (.invokevirtual idx, 3)) (K : LB p l e s m below meth c b D cy ax ay cells slots (pc + 3) lv (.int z.1 :: st) MX z.2) : LB p l e s m below meth c b D cy ax ay cells slots pc lv stk MX MY := fun H locs ls hX hY hS hl => by
  subst hst
  have hxA : ∀ q, xA LY ay q → s.heap.size ≤ q := fun q h => by
    obtain ⟨k9, hk9, rfl⟩ := h
    exact hO.2.2.2.2.2.2.2.2.2.2.1 k9 hk9
  refine va_calli (va_runV (C := y.cls) (As := As) (rest := st) ⟨hO.1, hO.2.1, hO.2.2.1, hO.2.2.2.1, hO.2.2.2.2.1⟩ (hC z hz) ⟨callB_of n hO.2.2.2.2.1 (gd_all hM) rfl rfl rfl (hO.2.2.2.2.1 _ hM.2.1) (hO.2.2.2.2.1 _ hlk) hM.2.2.1 ⟨by show d2 + 1 ≤ 2048; omega, by have := hM.2.2.2; show 8 + (maxL + 11) + 64 * d2 ≤ 84000; omega⟩, hO.2.2.2.2.1 _ hV.1, hO.2.2.2.2.1 _ hV.2⟩ ⟨WT_blind, by rw [hcC]; exact va_recv hO.2.2.2.2.2.1 hY.1 (ci := 12) rfl (q0 := 0) (by rw [wl_get (by decide), cE_obj (show isK LY 0 12 from ⟨rfl, by decide⟩) (by decide)]), fun U hU hw => ⟨rfl, ⟨by rw [hU]; exact hY.1, hY.2⟩, va_K.moved hw.alike hO.2.2.2.2.2.1⟩⟩ rfl hn hl.1 rfl (lv_room hroom) hdg ⟨hcells, hslots⟩) hS (fun q _ h => hxA q h) hxA (fun v u t H1 locs1 ht hvm hw hB hzz hk hS1 => ?_)
  have hw2 : z = (v, u) := hw.symm
  subst hw2
  exact K H1 locs1 ls ⟨hX.1.kept (fun k9 x9 hx9 => hk x9.1 ((hX.1 k9 x9 hx9).lt) (fun h => by obtain ⟨i9, hi9, e9⟩ := h; obtain ⟨hk9, rfl⟩ := wl_at hx9; exact hO.2.2.2.2.2.2.2.2.1 k9 i9 hk9 hi9 e9)), hX.2⟩ ⟨by have := hB.1.1; rw [ht] at this; exact this, hB.1.2⟩ hS1 hl
theorem l_callYL (hO : OKl p s m meth c b L xs D cy ax ay) {y : MethodName} {bytes : ByteArray} {maxL n d2 idx : Nat} {rt2 : Option FieldType} {As : List Value} {o1 : Option (Int64 × Mem)} {z : Int64 × Mem} (hz : o1 = some z) (hM : MD y bytes maxL rt2 n) (hV : MV y) (hcC : y.cls = RX12) (hlk : Cond.methodLink R_law idx y ∈ lw_g) (hC : CT l LY D cy ay y bytes maxL rt2 d2 (QL LY D cy ay) (.ref (ay 0) :: As) MY o1) (hdd : d2 ≤ 1000) (hn : As.length = n) {stk : List Value} (hst : stk = As.reverse ++ .ref (ay 0) :: st) (hroom : (st.map fun v => v.category).sum ≤ 8) (hcells : cells ≤ 600000) (hslots : slots ≤ 7302250) (hdg : decode code pc = .ok (.invokevirtual idx, 3)) (K : LB p l e s m below meth c b D cy ax ay cells slots (pc + 3) lv (.long z.1 :: st) MX z.2) : LB p l e s m below meth c b D cy ax ay cells slots pc lv stk MX MY := fun H locs ls hX hY hS hl => by
  subst hst
  have hxA : ∀ q, xA LY ay q → s.heap.size ≤ q := fun q h => by
    obtain ⟨k9, hk9, rfl⟩ := h
    exact hO.2.2.2.2.2.2.2.2.2.2.1 k9 hk9
  refine va_calll (va_runV (C := y.cls) (As := As) (rest := st) ⟨hO.1, hO.2.1, hO.2.2.1, hO.2.2.2.1, hO.2.2.2.2.1⟩ (hC z hz) ⟨callB_of n hO.2.2.2.2.1 (gd_all hM) rfl rfl rfl (hO.2.2.2.2.1 _ hM.2.1) (hO.2.2.2.2.1 _ hlk) hM.2.2.1 ⟨by show d2 + 1 ≤ 2048; omega, by have := hM.2.2.2; show 8 + (maxL + 11) + 64 * d2 ≤ 84000; omega⟩, hO.2.2.2.2.1 _ hV.1, hO.2.2.2.2.1 _ hV.2⟩ ⟨WT_blind, by rw [hcC]; exact va_recv hO.2.2.2.2.2.1 hY.1 (ci := 12) rfl (q0 := 0) (by rw [wl_get (by decide), cE_obj (show isK LY 0 12 from ⟨rfl, by decide⟩) (by decide)]), fun U hU hw => ⟨rfl, ⟨by rw [hU]; exact hY.1, hY.2⟩, va_K.moved hw.alike hO.2.2.2.2.2.1⟩⟩ rfl hn hl.1 rfl (lv_room hroom) hdg ⟨hcells, hslots⟩) hS (fun q _ h => hxA q h) hxA (fun v u t H1 locs1 ht hvm hw hB hzz hk hS1 => ?_)
  have hw2 : z = (v, u) := hw.symm
  subst hw2
  exact K H1 locs1 ls ⟨hX.1.kept (fun k9 x9 hx9 => hk x9.1 ((hX.1 k9 x9 hx9).lt) (fun h => by obtain ⟨i9, hi9, e9⟩ := h; obtain ⟨hk9, rfl⟩ := wl_at hx9; exact hO.2.2.2.2.2.2.2.2.1 k9 i9 hk9 hi9 e9)), hX.2⟩ ⟨by have := hB.1.1; rw [ht] at this; exact this, hB.1.2⟩ hS1 hl
end LROWS
end
