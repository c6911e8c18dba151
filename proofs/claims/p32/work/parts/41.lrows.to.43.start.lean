section
def b41wl0 : List (Nat × Cond) := [(663, Cond.methodLink "PalmHoursLaw" 13 ⟨"PalmHours", "feed", "(IIIII)I"⟩), (664, Cond.instanceMethod ⟨"PalmHours", "feed", "(IIIII)I"⟩), (665, Cond.selects "PalmHours" ⟨"PalmHours", "feed", "(IIIII)I"⟩ ⟨"PalmHours", "feed", "(IIIII)I"⟩), (666, Cond.code ⟨"PalmHours", "feed", "(IIIII)I"⟩ cX11_feed 6 (some .int)), (679, Cond.methodLink "PalmHoursLaw" 18 ⟨"PalmHours", "end", "(I)Z"⟩), (680, Cond.instanceMethod ⟨"PalmHours", "end", "(I)Z"⟩), (681, Cond.selects "PalmHours" ⟨"PalmHours", "end", "(I)Z"⟩ ⟨"PalmHours", "end", "(I)Z"⟩), (682, Cond.code ⟨"PalmHours", "end", "(I)Z"⟩ cX11_end 2 (some .boolean)), (683, Cond.methodLink "PalmHoursLaw" 23 ⟨"PalmHours", "town", "()I"⟩), (684, Cond.instanceMethod ⟨"PalmHours", "town", "()I"⟩), (685, Cond.selects "PalmHours" ⟨"PalmHours", "town", "()I"⟩ ⟨"PalmHours", "town", "()I"⟩), (686, Cond.code ⟨"PalmHours", "town", "()I"⟩ cX11_town 3 (some .int)), (904, Cond.methodLink "PalmHoursLaw" 28 ⟨"PalmHours", "fault", "(I)I"⟩), (905, Cond.instanceMethod ⟨"PalmHours", "fault", "(I)I"⟩), (906, Cond.selects "PalmHours" ⟨"PalmHours", "fault", "(I)I"⟩ ⟨"PalmHours", "fault", "(I)I"⟩), (907, Cond.code ⟨"PalmHours", "fault", "(I)I"⟩ cX11_fault 2 (some .int)), (908, Cond.methodLink "PalmHoursLaw" 33 ⟨"PalmHours", "has", "(I)I"⟩), (909, Cond.instanceMethod ⟨"PalmHours", "has", "(I)I"⟩), (910, Cond.selects "PalmHours" ⟨"PalmHours", "has", "(I)I"⟩ ⟨"PalmHours", "has", "(I)I"⟩), (911, Cond.code ⟨"PalmHours", "has", "(I)I"⟩ cX11_has 2 (some .int)), (920, Cond.methodLink "PalmHoursLaw" 37 ⟨"PalmHours", "letter", "(III)I"⟩), (921, Cond.instanceMethod ⟨"PalmHours", "letter", "(III)I"⟩), (922, Cond.selects "PalmHours" ⟨"PalmHours", "letter", "(III)I"⟩ ⟨"PalmHours", "letter", "(III)I"⟩), (923, Cond.code ⟨"PalmHours", "letter", "(III)I"⟩ cX11_letter 4 (some .int)), (936, Cond.methodLink "PalmHoursLaw" 42 ⟨"PalmHours", "thing", "(II)I"⟩), (937, Cond.instanceMethod ⟨"PalmHours", "thing", "(II)I"⟩), (938, Cond.selects "PalmHours" ⟨"PalmHours", "thing", "(II)I"⟩ ⟨"PalmHours", "thing", "(II)I"⟩), (939, Cond.code ⟨"PalmHours", "thing", "(II)I"⟩ cX11_thing 3 (some .int)), (940, Cond.methodLink "PalmHoursLaw" 47 ⟨"PalmHours", "corner", "(II)I"⟩), (941, Cond.instanceMethod ⟨"PalmHours", "corner", "(II)I"⟩), (942, Cond.selects "PalmHours" ⟨"PalmHours", "corner", "(II)I"⟩ ⟨"PalmHours", "corner", "(II)I"⟩), (943, Cond.code ⟨"PalmHours", "corner", "(II)I"⟩ cX11_corner 3 (some .int)), (954, Cond.methodLink "PalmHoursLaw" 51 ⟨"PalmHours", "doing", "(II)I"⟩), (955, Cond.instanceMethod ⟨"PalmHours", "doing", "(II)I"⟩), (956, Cond.selects "PalmHours" ⟨"PalmHours", "doing", "(II)I"⟩ ⟨"PalmHours", "doing", "(II)I"⟩), (957, Cond.code ⟨"PalmHours", "doing", "(II)I"⟩ cX11_doing 3 (some .int)), (958, Cond.methodLink "PalmHoursLaw" 55 ⟨"PalmHours", "later", "(II)I"⟩), (959, Cond.instanceMethod ⟨"PalmHours", "later", "(II)I"⟩), (960, Cond.selects "PalmHours" ⟨"PalmHours", "later", "(II)I"⟩ ⟨"PalmHours", "later", "(II)I"⟩), (961, Cond.code ⟨"PalmHours", "later", "(II)I"⟩ cX11_later 3 (some .int)), (979, Cond.methodLink "PalmHoursLaw" 59 ⟨"PalmHours", "when", "(I)I"⟩), (980, Cond.instanceMethod ⟨"PalmHours", "when", "(I)I"⟩), (981, Cond.selects "PalmHours" ⟨"PalmHours", "when", "(I)I"⟩ ⟨"PalmHours", "when", "(I)I"⟩), (982, Cond.code ⟨"PalmHours", "when", "(I)I"⟩ cX11_when 4 (some .int)), (983, Cond.methodLink "PalmHoursLaw" 63 ⟨"PalmHours", "alike", "(II)I"⟩), (984, Cond.instanceMethod ⟨"PalmHours", "alike", "(II)I"⟩), (985, Cond.selects "PalmHours" ⟨"PalmHours", "alike", "(II)I"⟩ ⟨"PalmHours", "alike", "(II)I"⟩), (986, Cond.code ⟨"PalmHours", "alike", "(II)I"⟩ cX11_alike 5 (some .int)), (987, Cond.methodLink "PalmHoursLaw" 67 ⟨"PalmHours", "plan", "(III)I"⟩), (988, Cond.instanceMethod ⟨"PalmHours", "plan", "(III)I"⟩), (989, Cond.selects "PalmHours" ⟨"PalmHours", "plan", "(III)I"⟩ ⟨"PalmHours", "plan", "(III)I"⟩), (990, Cond.code ⟨"PalmHours", "plan", "(III)I"⟩ cX11_plan 5 (some .int)), (1023, Cond.methodLink "PalmHoursLaw" 71 ⟨"PalmHours", "evening", "(II)I"⟩), (1024, Cond.instanceMethod ⟨"PalmHours", "evening", "(II)I"⟩), (1025, Cond.selects "PalmHours" ⟨"PalmHours", "evening", "(II)I"⟩ ⟨"PalmHours", "evening", "(II)I"⟩), (1026, Cond.code ⟨"PalmHours", "evening", "(II)I"⟩ cX11_evening 7 (some .int)), (1031, Cond.methodLink "PalmHoursLaw" 75 ⟨"PalmHours", "odds", "(III)J"⟩), (1032, Cond.instanceMethod ⟨"PalmHours", "odds", "(III)J"⟩), (1033, Cond.selects "PalmHours" ⟨"PalmHours", "odds", "(III)J"⟩ ⟨"PalmHours", "odds", "(III)J"⟩), (1034, Cond.code ⟨"PalmHours", "odds", "(III)J"⟩ cX11_odds 6 (some .long)), (1050, Cond.methodLink "PalmHoursLaw" 80 ⟨"PalmHours", "way", "(II)I"⟩), (1051, Cond.instanceMethod ⟨"PalmHours", "way", "(II)I"⟩), (1052, Cond.selects "PalmHours" ⟨"PalmHours", "way", "(II)I"⟩ ⟨"PalmHours", "way", "(II)I"⟩), (1053, Cond.code ⟨"PalmHours", "way", "(II)I"⟩ cX11_way 3 (some .int)), (1065, Cond.methodLink "PalmHoursLaw" 84 ⟨"PalmHours", "arrive", "(II)I"⟩), (1066, Cond.instanceMethod ⟨"PalmHours", "arrive", "(II)I"⟩), (1067, Cond.selects "PalmHours" ⟨"PalmHours", "arrive", "(II)I"⟩ ⟨"PalmHours", "arrive", "(II)I"⟩), (1068, Cond.code ⟨"PalmHours", "arrive", "(II)I"⟩ cX11_arrive 4 (some .int)), (1069, Cond.methodLink "PalmHoursLaw" 88 ⟨"PalmHours", "early", "(I)I"⟩), (1070, Cond.instanceMethod ⟨"PalmHours", "early", "(I)I"⟩), (1071, Cond.selects "PalmHours" ⟨"PalmHours", "early", "(I)I"⟩ ⟨"PalmHours", "early", "(I)I"⟩), (1072, Cond.code ⟨"PalmHours", "early", "(I)I"⟩ cX11_early 4 (some .int)), (1084, Cond.methodLink "PalmHoursLaw" 92 ⟨"PalmHours", "see", "()I"⟩), (1085, Cond.instanceMethod ⟨"PalmHours", "see", "()I"⟩), (1086, Cond.selects "PalmHours" ⟨"PalmHours", "see", "()I"⟩ ⟨"PalmHours", "see", "()I"⟩), (1087, Cond.code ⟨"PalmHours", "see", "()I"⟩ cX11_see 2 (some .int)), (1094, Cond.methodLink "PalmHoursLaw" 96 ⟨"PalmHours", "held", "(I)I"⟩), (1095, Cond.instanceMethod ⟨"PalmHours", "held", "(I)I"⟩), (1096, Cond.selects "PalmHours" ⟨"PalmHours", "held", "(I)I"⟩ ⟨"PalmHours", "held", "(I)I"⟩), (1097, Cond.code ⟨"PalmHours", "held", "(I)I"⟩ cX11_held 2 (some .int)), (1114, Cond.methodLink "PalmHoursLaw" 100 ⟨"PalmHours", "tells", "(II)I"⟩), (1115, Cond.instanceMethod ⟨"PalmHours", "tells", "(II)I"⟩), (1116, Cond.selects "PalmHours" ⟨"PalmHours", "tells", "(II)I"⟩ ⟨"PalmHours", "tells", "(II)I"⟩), (1117, Cond.code ⟨"PalmHours", "tells", "(II)I"⟩ cX11_tells 9 (some .int)), (1124, Cond.methodLink "PalmHoursLaw" 104 ⟨"PalmHours", "minutes", "(I)I"⟩), (1125, Cond.instanceMethod ⟨"PalmHours", "minutes", "(I)I"⟩), (1126, Cond.selects "PalmHours" ⟨"PalmHours", "minutes", "(I)I"⟩ ⟨"PalmHours", "minutes", "(I)I"⟩), (1127, Cond.code ⟨"PalmHours", "minutes", "(I)I"⟩ cX11_minutes 4 (some .int)), (1146, Cond.methodLink "PalmHoursLaw" 108 ⟨"PalmHours", "chance", "(I)I"⟩), (1147, Cond.instanceMethod ⟨"PalmHours", "chance", "(I)I"⟩), (1148, Cond.selects "PalmHours" ⟨"PalmHours", "chance", "(I)I"⟩ ⟨"PalmHours", "chance", "(I)I"⟩), (1149, Cond.code ⟨"PalmHours", "chance", "(I)I"⟩ cX11_chance 4 (some .int)), (1162, Cond.methodLink "PalmHoursLaw" 112 ⟨"PalmHours", "give", "(II)I"⟩), (1163, Cond.instanceMethod ⟨"PalmHours", "give", "(II)I"⟩), (1164, Cond.selects "PalmHours" ⟨"PalmHours", "give", "(II)I"⟩ ⟨"PalmHours", "give", "(II)I"⟩), (1165, Cond.code ⟨"PalmHours", "give", "(II)I"⟩ cX11_give 3 (some .int))]
theorem b41w0 : pkW lw_tbl 0 b41wl0 = true := by decide +kernel
theorem w663 : Cond.methodLink "PalmHoursLaw" 13 ⟨"PalmHours", "feed", "(IIIII)I"⟩ ∈ lw_g := pkW_i b41w0 0 rfl
theorem w664 : Cond.instanceMethod ⟨"PalmHours", "feed", "(IIIII)I"⟩ ∈ lw_g := pkW_i b41w0 1 rfl
theorem w665 : Cond.selects "PalmHours" ⟨"PalmHours", "feed", "(IIIII)I"⟩ ⟨"PalmHours", "feed", "(IIIII)I"⟩ ∈ lw_g := pkW_i b41w0 2 rfl
theorem w666 : Cond.code ⟨"PalmHours", "feed", "(IIIII)I"⟩ cX11_feed 6 (some .int) ∈ lw_g := pkW_i b41w0 3 rfl
theorem w679 : Cond.methodLink "PalmHoursLaw" 18 ⟨"PalmHours", "end", "(I)Z"⟩ ∈ lw_g := pkW_i b41w0 4 rfl
theorem w680 : Cond.instanceMethod ⟨"PalmHours", "end", "(I)Z"⟩ ∈ lw_g := pkW_i b41w0 5 rfl
theorem w681 : Cond.selects "PalmHours" ⟨"PalmHours", "end", "(I)Z"⟩ ⟨"PalmHours", "end", "(I)Z"⟩ ∈ lw_g := pkW_i b41w0 6 rfl
theorem w682 : Cond.code ⟨"PalmHours", "end", "(I)Z"⟩ cX11_end 2 (some .boolean) ∈ lw_g := pkW_i b41w0 7 rfl
theorem w683 : Cond.methodLink "PalmHoursLaw" 23 ⟨"PalmHours", "town", "()I"⟩ ∈ lw_g := pkW_i b41w0 8 rfl
theorem w684 : Cond.instanceMethod ⟨"PalmHours", "town", "()I"⟩ ∈ lw_g := pkW_i b41w0 9 rfl
theorem w685 : Cond.selects "PalmHours" ⟨"PalmHours", "town", "()I"⟩ ⟨"PalmHours", "town", "()I"⟩ ∈ lw_g := pkW_i b41w0 10 rfl
theorem w686 : Cond.code ⟨"PalmHours", "town", "()I"⟩ cX11_town 3 (some .int) ∈ lw_g := pkW_i b41w0 11 rfl
theorem w904 : Cond.methodLink "PalmHoursLaw" 28 ⟨"PalmHours", "fault", "(I)I"⟩ ∈ lw_g := pkW_i b41w0 12 rfl
theorem w905 : Cond.instanceMethod ⟨"PalmHours", "fault", "(I)I"⟩ ∈ lw_g := pkW_i b41w0 13 rfl
theorem w906 : Cond.selects "PalmHours" ⟨"PalmHours", "fault", "(I)I"⟩ ⟨"PalmHours", "fault", "(I)I"⟩ ∈ lw_g := pkW_i b41w0 14 rfl
theorem w907 : Cond.code ⟨"PalmHours", "fault", "(I)I"⟩ cX11_fault 2 (some .int) ∈ lw_g := pkW_i b41w0 15 rfl
theorem w908 : Cond.methodLink "PalmHoursLaw" 33 ⟨"PalmHours", "has", "(I)I"⟩ ∈ lw_g := pkW_i b41w0 16 rfl
theorem w909 : Cond.instanceMethod ⟨"PalmHours", "has", "(I)I"⟩ ∈ lw_g := pkW_i b41w0 17 rfl
theorem w910 : Cond.selects "PalmHours" ⟨"PalmHours", "has", "(I)I"⟩ ⟨"PalmHours", "has", "(I)I"⟩ ∈ lw_g := pkW_i b41w0 18 rfl
theorem w911 : Cond.code ⟨"PalmHours", "has", "(I)I"⟩ cX11_has 2 (some .int) ∈ lw_g := pkW_i b41w0 19 rfl
theorem w920 : Cond.methodLink "PalmHoursLaw" 37 ⟨"PalmHours", "letter", "(III)I"⟩ ∈ lw_g := pkW_i b41w0 20 rfl
theorem w921 : Cond.instanceMethod ⟨"PalmHours", "letter", "(III)I"⟩ ∈ lw_g := pkW_i b41w0 21 rfl
theorem w922 : Cond.selects "PalmHours" ⟨"PalmHours", "letter", "(III)I"⟩ ⟨"PalmHours", "letter", "(III)I"⟩ ∈ lw_g := pkW_i b41w0 22 rfl
theorem w923 : Cond.code ⟨"PalmHours", "letter", "(III)I"⟩ cX11_letter 4 (some .int) ∈ lw_g := pkW_i b41w0 23 rfl
theorem w936 : Cond.methodLink "PalmHoursLaw" 42 ⟨"PalmHours", "thing", "(II)I"⟩ ∈ lw_g := pkW_i b41w0 24 rfl
theorem w937 : Cond.instanceMethod ⟨"PalmHours", "thing", "(II)I"⟩ ∈ lw_g := pkW_i b41w0 25 rfl
theorem w938 : Cond.selects "PalmHours" ⟨"PalmHours", "thing", "(II)I"⟩ ⟨"PalmHours", "thing", "(II)I"⟩ ∈ lw_g := pkW_i b41w0 26 rfl
theorem w939 : Cond.code ⟨"PalmHours", "thing", "(II)I"⟩ cX11_thing 3 (some .int) ∈ lw_g := pkW_i b41w0 27 rfl
theorem w940 : Cond.methodLink "PalmHoursLaw" 47 ⟨"PalmHours", "corner", "(II)I"⟩ ∈ lw_g := pkW_i b41w0 28 rfl
theorem w941 : Cond.instanceMethod ⟨"PalmHours", "corner", "(II)I"⟩ ∈ lw_g := pkW_i b41w0 29 rfl
theorem w942 : Cond.selects "PalmHours" ⟨"PalmHours", "corner", "(II)I"⟩ ⟨"PalmHours", "corner", "(II)I"⟩ ∈ lw_g := pkW_i b41w0 30 rfl
theorem w943 : Cond.code ⟨"PalmHours", "corner", "(II)I"⟩ cX11_corner 3 (some .int) ∈ lw_g := pkW_i b41w0 31 rfl
theorem w954 : Cond.methodLink "PalmHoursLaw" 51 ⟨"PalmHours", "doing", "(II)I"⟩ ∈ lw_g := pkW_i b41w0 32 rfl
theorem w955 : Cond.instanceMethod ⟨"PalmHours", "doing", "(II)I"⟩ ∈ lw_g := pkW_i b41w0 33 rfl
theorem w956 : Cond.selects "PalmHours" ⟨"PalmHours", "doing", "(II)I"⟩ ⟨"PalmHours", "doing", "(II)I"⟩ ∈ lw_g := pkW_i b41w0 34 rfl
theorem w957 : Cond.code ⟨"PalmHours", "doing", "(II)I"⟩ cX11_doing 3 (some .int) ∈ lw_g := pkW_i b41w0 35 rfl
theorem w958 : Cond.methodLink "PalmHoursLaw" 55 ⟨"PalmHours", "later", "(II)I"⟩ ∈ lw_g := pkW_i b41w0 36 rfl
theorem w959 : Cond.instanceMethod ⟨"PalmHours", "later", "(II)I"⟩ ∈ lw_g := pkW_i b41w0 37 rfl
theorem w960 : Cond.selects "PalmHours" ⟨"PalmHours", "later", "(II)I"⟩ ⟨"PalmHours", "later", "(II)I"⟩ ∈ lw_g := pkW_i b41w0 38 rfl
theorem w961 : Cond.code ⟨"PalmHours", "later", "(II)I"⟩ cX11_later 3 (some .int) ∈ lw_g := pkW_i b41w0 39 rfl
theorem w979 : Cond.methodLink "PalmHoursLaw" 59 ⟨"PalmHours", "when", "(I)I"⟩ ∈ lw_g := pkW_i b41w0 40 rfl
theorem w980 : Cond.instanceMethod ⟨"PalmHours", "when", "(I)I"⟩ ∈ lw_g := pkW_i b41w0 41 rfl
theorem w981 : Cond.selects "PalmHours" ⟨"PalmHours", "when", "(I)I"⟩ ⟨"PalmHours", "when", "(I)I"⟩ ∈ lw_g := pkW_i b41w0 42 rfl
theorem w982 : Cond.code ⟨"PalmHours", "when", "(I)I"⟩ cX11_when 4 (some .int) ∈ lw_g := pkW_i b41w0 43 rfl
theorem w983 : Cond.methodLink "PalmHoursLaw" 63 ⟨"PalmHours", "alike", "(II)I"⟩ ∈ lw_g := pkW_i b41w0 44 rfl
theorem w984 : Cond.instanceMethod ⟨"PalmHours", "alike", "(II)I"⟩ ∈ lw_g := pkW_i b41w0 45 rfl
theorem w985 : Cond.selects "PalmHours" ⟨"PalmHours", "alike", "(II)I"⟩ ⟨"PalmHours", "alike", "(II)I"⟩ ∈ lw_g := pkW_i b41w0 46 rfl
theorem w986 : Cond.code ⟨"PalmHours", "alike", "(II)I"⟩ cX11_alike 5 (some .int) ∈ lw_g := pkW_i b41w0 47 rfl
theorem w987 : Cond.methodLink "PalmHoursLaw" 67 ⟨"PalmHours", "plan", "(III)I"⟩ ∈ lw_g := pkW_i b41w0 48 rfl
theorem w988 : Cond.instanceMethod ⟨"PalmHours", "plan", "(III)I"⟩ ∈ lw_g := pkW_i b41w0 49 rfl
theorem w989 : Cond.selects "PalmHours" ⟨"PalmHours", "plan", "(III)I"⟩ ⟨"PalmHours", "plan", "(III)I"⟩ ∈ lw_g := pkW_i b41w0 50 rfl
theorem w990 : Cond.code ⟨"PalmHours", "plan", "(III)I"⟩ cX11_plan 5 (some .int) ∈ lw_g := pkW_i b41w0 51 rfl
theorem w1023 : Cond.methodLink "PalmHoursLaw" 71 ⟨"PalmHours", "evening", "(II)I"⟩ ∈ lw_g := pkW_i b41w0 52 rfl
theorem w1024 : Cond.instanceMethod ⟨"PalmHours", "evening", "(II)I"⟩ ∈ lw_g := pkW_i b41w0 53 rfl
theorem w1025 : Cond.selects "PalmHours" ⟨"PalmHours", "evening", "(II)I"⟩ ⟨"PalmHours", "evening", "(II)I"⟩ ∈ lw_g := pkW_i b41w0 54 rfl
theorem w1026 : Cond.code ⟨"PalmHours", "evening", "(II)I"⟩ cX11_evening 7 (some .int) ∈ lw_g := pkW_i b41w0 55 rfl
theorem w1031 : Cond.methodLink "PalmHoursLaw" 75 ⟨"PalmHours", "odds", "(III)J"⟩ ∈ lw_g := pkW_i b41w0 56 rfl
theorem w1032 : Cond.instanceMethod ⟨"PalmHours", "odds", "(III)J"⟩ ∈ lw_g := pkW_i b41w0 57 rfl
theorem w1033 : Cond.selects "PalmHours" ⟨"PalmHours", "odds", "(III)J"⟩ ⟨"PalmHours", "odds", "(III)J"⟩ ∈ lw_g := pkW_i b41w0 58 rfl
theorem w1034 : Cond.code ⟨"PalmHours", "odds", "(III)J"⟩ cX11_odds 6 (some .long) ∈ lw_g := pkW_i b41w0 59 rfl
theorem w1050 : Cond.methodLink "PalmHoursLaw" 80 ⟨"PalmHours", "way", "(II)I"⟩ ∈ lw_g := pkW_i b41w0 60 rfl
theorem w1051 : Cond.instanceMethod ⟨"PalmHours", "way", "(II)I"⟩ ∈ lw_g := pkW_i b41w0 61 rfl
theorem w1052 : Cond.selects "PalmHours" ⟨"PalmHours", "way", "(II)I"⟩ ⟨"PalmHours", "way", "(II)I"⟩ ∈ lw_g := pkW_i b41w0 62 rfl
theorem w1053 : Cond.code ⟨"PalmHours", "way", "(II)I"⟩ cX11_way 3 (some .int) ∈ lw_g := pkW_i b41w0 63 rfl
theorem w1065 : Cond.methodLink "PalmHoursLaw" 84 ⟨"PalmHours", "arrive", "(II)I"⟩ ∈ lw_g := pkW_i b41w0 64 rfl
theorem w1066 : Cond.instanceMethod ⟨"PalmHours", "arrive", "(II)I"⟩ ∈ lw_g := pkW_i b41w0 65 rfl
theorem w1067 : Cond.selects "PalmHours" ⟨"PalmHours", "arrive", "(II)I"⟩ ⟨"PalmHours", "arrive", "(II)I"⟩ ∈ lw_g := pkW_i b41w0 66 rfl
theorem w1068 : Cond.code ⟨"PalmHours", "arrive", "(II)I"⟩ cX11_arrive 4 (some .int) ∈ lw_g := pkW_i b41w0 67 rfl
theorem w1069 : Cond.methodLink "PalmHoursLaw" 88 ⟨"PalmHours", "early", "(I)I"⟩ ∈ lw_g := pkW_i b41w0 68 rfl
theorem w1070 : Cond.instanceMethod ⟨"PalmHours", "early", "(I)I"⟩ ∈ lw_g := pkW_i b41w0 69 rfl
theorem w1071 : Cond.selects "PalmHours" ⟨"PalmHours", "early", "(I)I"⟩ ⟨"PalmHours", "early", "(I)I"⟩ ∈ lw_g := pkW_i b41w0 70 rfl
theorem w1072 : Cond.code ⟨"PalmHours", "early", "(I)I"⟩ cX11_early 4 (some .int) ∈ lw_g := pkW_i b41w0 71 rfl
theorem w1084 : Cond.methodLink "PalmHoursLaw" 92 ⟨"PalmHours", "see", "()I"⟩ ∈ lw_g := pkW_i b41w0 72 rfl
theorem w1085 : Cond.instanceMethod ⟨"PalmHours", "see", "()I"⟩ ∈ lw_g := pkW_i b41w0 73 rfl
theorem w1086 : Cond.selects "PalmHours" ⟨"PalmHours", "see", "()I"⟩ ⟨"PalmHours", "see", "()I"⟩ ∈ lw_g := pkW_i b41w0 74 rfl
theorem w1087 : Cond.code ⟨"PalmHours", "see", "()I"⟩ cX11_see 2 (some .int) ∈ lw_g := pkW_i b41w0 75 rfl
theorem w1094 : Cond.methodLink "PalmHoursLaw" 96 ⟨"PalmHours", "held", "(I)I"⟩ ∈ lw_g := pkW_i b41w0 76 rfl
theorem w1095 : Cond.instanceMethod ⟨"PalmHours", "held", "(I)I"⟩ ∈ lw_g := pkW_i b41w0 77 rfl
theorem w1096 : Cond.selects "PalmHours" ⟨"PalmHours", "held", "(I)I"⟩ ⟨"PalmHours", "held", "(I)I"⟩ ∈ lw_g := pkW_i b41w0 78 rfl
theorem w1097 : Cond.code ⟨"PalmHours", "held", "(I)I"⟩ cX11_held 2 (some .int) ∈ lw_g := pkW_i b41w0 79 rfl
theorem w1114 : Cond.methodLink "PalmHoursLaw" 100 ⟨"PalmHours", "tells", "(II)I"⟩ ∈ lw_g := pkW_i b41w0 80 rfl
theorem w1115 : Cond.instanceMethod ⟨"PalmHours", "tells", "(II)I"⟩ ∈ lw_g := pkW_i b41w0 81 rfl
theorem w1116 : Cond.selects "PalmHours" ⟨"PalmHours", "tells", "(II)I"⟩ ⟨"PalmHours", "tells", "(II)I"⟩ ∈ lw_g := pkW_i b41w0 82 rfl
theorem w1117 : Cond.code ⟨"PalmHours", "tells", "(II)I"⟩ cX11_tells 9 (some .int) ∈ lw_g := pkW_i b41w0 83 rfl
theorem w1124 : Cond.methodLink "PalmHoursLaw" 104 ⟨"PalmHours", "minutes", "(I)I"⟩ ∈ lw_g := pkW_i b41w0 84 rfl
theorem w1125 : Cond.instanceMethod ⟨"PalmHours", "minutes", "(I)I"⟩ ∈ lw_g := pkW_i b41w0 85 rfl
theorem w1126 : Cond.selects "PalmHours" ⟨"PalmHours", "minutes", "(I)I"⟩ ⟨"PalmHours", "minutes", "(I)I"⟩ ∈ lw_g := pkW_i b41w0 86 rfl
theorem w1127 : Cond.code ⟨"PalmHours", "minutes", "(I)I"⟩ cX11_minutes 4 (some .int) ∈ lw_g := pkW_i b41w0 87 rfl
theorem w1146 : Cond.methodLink "PalmHoursLaw" 108 ⟨"PalmHours", "chance", "(I)I"⟩ ∈ lw_g := pkW_i b41w0 88 rfl
theorem w1147 : Cond.instanceMethod ⟨"PalmHours", "chance", "(I)I"⟩ ∈ lw_g := pkW_i b41w0 89 rfl
theorem w1148 : Cond.selects "PalmHours" ⟨"PalmHours", "chance", "(I)I"⟩ ⟨"PalmHours", "chance", "(I)I"⟩ ∈ lw_g := pkW_i b41w0 90 rfl
theorem w1149 : Cond.code ⟨"PalmHours", "chance", "(I)I"⟩ cX11_chance 4 (some .int) ∈ lw_g := pkW_i b41w0 91 rfl
theorem w1162 : Cond.methodLink "PalmHoursLaw" 112 ⟨"PalmHours", "give", "(II)I"⟩ ∈ lw_g := pkW_i b41w0 92 rfl
theorem w1163 : Cond.instanceMethod ⟨"PalmHours", "give", "(II)I"⟩ ∈ lw_g := pkW_i b41w0 93 rfl
theorem w1164 : Cond.selects "PalmHours" ⟨"PalmHours", "give", "(II)I"⟩ ⟨"PalmHours", "give", "(II)I"⟩ ∈ lw_g := pkW_i b41w0 94 rfl
theorem w1165 : Cond.code ⟨"PalmHours", "give", "(II)I"⟩ cX11_give 3 (some .int) ∈ lw_g := pkW_i b41w0 95 rfl
def b41wl1 : List (Nat × Cond) := [(1170, Cond.methodLink "PalmHoursLaw" 116 ⟨"PalmHours", "take", "(I)I"⟩), (1171, Cond.instanceMethod ⟨"PalmHours", "take", "(I)I"⟩), (1172, Cond.selects "PalmHours" ⟨"PalmHours", "take", "(I)I"⟩ ⟨"PalmHours", "take", "(I)I"⟩), (1173, Cond.code ⟨"PalmHours", "take", "(I)I"⟩ cX11_take 2 (some .int)), (1174, Cond.methodLink "PalmHoursLaw" 120 ⟨"PalmHours", "undo", "()Z"⟩), (1175, Cond.instanceMethod ⟨"PalmHours", "undo", "()Z"⟩), (1176, Cond.selects "PalmHours" ⟨"PalmHours", "undo", "()Z"⟩ ⟨"PalmHours", "undo", "()Z"⟩), (1177, Cond.code ⟨"PalmHours", "undo", "()Z"⟩ cX11_undo 1 (some .boolean)), (1186, Cond.methodLink "PalmHoursLaw" 125 ⟨"PalmHours", "seed", "(I)Z"⟩), (1187, Cond.instanceMethod ⟨"PalmHours", "seed", "(I)Z"⟩), (1188, Cond.selects "PalmHours" ⟨"PalmHours", "seed", "(I)Z"⟩ ⟨"PalmHours", "seed", "(I)Z"⟩), (1189, Cond.code ⟨"PalmHours", "seed", "(I)Z"⟩ cX11_seed 2 (some .boolean)), (1190, Cond.methodLink "PalmHoursLaw" 129 ⟨"PalmHours", "kept", "(II)I"⟩), (1191, Cond.instanceMethod ⟨"PalmHours", "kept", "(II)I"⟩), (1192, Cond.selects "PalmHours" ⟨"PalmHours", "kept", "(II)I"⟩ ⟨"PalmHours", "kept", "(II)I"⟩), (1193, Cond.code ⟨"PalmHours", "kept", "(II)I"⟩ cX11_kept 3 (some .int)), (1194, Cond.methodLink "PalmHoursLaw" 133 ⟨"PalmHours", "image", "()I"⟩), (1195, Cond.instanceMethod ⟨"PalmHours", "image", "()I"⟩), (1196, Cond.selects "PalmHours" ⟨"PalmHours", "image", "()I"⟩ ⟨"PalmHours", "image", "()I"⟩), (1197, Cond.code ⟨"PalmHours", "image", "()I"⟩ cX11_image 1 (some .int)), (1209, Cond.methodLink "PalmHoursLaw" 137 ⟨"PalmHours", "octet", "(I)I"⟩), (1210, Cond.instanceMethod ⟨"PalmHours", "octet", "(I)I"⟩), (1211, Cond.selects "PalmHours" ⟨"PalmHours", "octet", "(I)I"⟩ ⟨"PalmHours", "octet", "(I)I"⟩), (1212, Cond.code ⟨"PalmHours", "octet", "(I)I"⟩ cX11_octet 2 (some .int)), (1213, Cond.methodLink "PalmHoursLaw" 141 ⟨"PalmHours", "on", "()Z"⟩), (1214, Cond.instanceMethod ⟨"PalmHours", "on", "()Z"⟩), (1215, Cond.selects "PalmHours" ⟨"PalmHours", "on", "()Z"⟩ ⟨"PalmHours", "on", "()Z"⟩), (1216, Cond.code ⟨"PalmHours", "on", "()Z"⟩ cX11_on 2 (some .boolean)), (1232, Cond.methodLink "PalmHoursLaw" 145 ⟨"PalmHours", "status", "(I)I"⟩), (1233, Cond.instanceMethod ⟨"PalmHours", "status", "(I)I"⟩), (1234, Cond.selects "PalmHours" ⟨"PalmHours", "status", "(I)I"⟩ ⟨"PalmHours", "status", "(I)I"⟩), (1235, Cond.code ⟨"PalmHours", "status", "(I)I"⟩ cX11_status 2 (some .int)), (1449, Cond.methodLink "PalmHoursLaw" 17 ⟨"PalmHoursModel", "feed", "(IIIII)I"⟩), (1450, Cond.instanceMethod ⟨"PalmHoursModel", "feed", "(IIIII)I"⟩), (1451, Cond.selects "PalmHoursModel" ⟨"PalmHoursModel", "feed", "(IIIII)I"⟩ ⟨"PalmHoursModel", "feed", "(IIIII)I"⟩), (1452, Cond.code ⟨"PalmHoursModel", "feed", "(IIIII)I"⟩ cX12_feed 6 (some .int)), (1461, Cond.methodLink "PalmHoursLaw" 22 ⟨"PalmHoursModel", "end", "(I)Z"⟩), (1462, Cond.instanceMethod ⟨"PalmHoursModel", "end", "(I)Z"⟩), (1463, Cond.selects "PalmHoursModel" ⟨"PalmHoursModel", "end", "(I)Z"⟩ ⟨"PalmHoursModel", "end", "(I)Z"⟩), (1464, Cond.code ⟨"PalmHoursModel", "end", "(I)Z"⟩ cX12_end 2 (some .boolean)), (1465, Cond.methodLink "PalmHoursLaw" 27 ⟨"PalmHoursModel", "town", "()I"⟩), (1466, Cond.instanceMethod ⟨"PalmHoursModel", "town", "()I"⟩), (1467, Cond.selects "PalmHoursModel" ⟨"PalmHoursModel", "town", "()I"⟩ ⟨"PalmHoursModel", "town", "()I"⟩), (1468, Cond.code ⟨"PalmHoursModel", "town", "()I"⟩ cX12_town 3 (some .int)), (1689, Cond.methodLink "PalmHoursLaw" 32 ⟨"PalmHoursModel", "fault", "(I)I"⟩), (1690, Cond.instanceMethod ⟨"PalmHoursModel", "fault", "(I)I"⟩), (1691, Cond.selects "PalmHoursModel" ⟨"PalmHoursModel", "fault", "(I)I"⟩ ⟨"PalmHoursModel", "fault", "(I)I"⟩), (1692, Cond.code ⟨"PalmHoursModel", "fault", "(I)I"⟩ cX12_fault 2 (some .int)), (1693, Cond.methodLink "PalmHoursLaw" 148 ⟨"PalmHoursModel", "status", "(I)I"⟩), (1694, Cond.instanceMethod ⟨"PalmHoursModel", "status", "(I)I"⟩), (1695, Cond.selects "PalmHoursModel" ⟨"PalmHoursModel", "status", "(I)I"⟩ ⟨"PalmHoursModel", "status", "(I)I"⟩), (1696, Cond.code ⟨"PalmHoursModel", "status", "(I)I"⟩ cX12_status 2 (some .int)), (1697, Cond.methodLink "PalmHoursLaw" 124 ⟨"PalmHoursModel", "undo", "()Z"⟩), (1698, Cond.instanceMethod ⟨"PalmHoursModel", "undo", "()Z"⟩), (1699, Cond.selects "PalmHoursModel" ⟨"PalmHoursModel", "undo", "()Z"⟩ ⟨"PalmHoursModel", "undo", "()Z"⟩), (1700, Cond.code ⟨"PalmHoursModel", "undo", "()Z"⟩ cX12_undo 1 (some .boolean)), (1709, Cond.methodLink "PalmHoursLaw" 36 ⟨"PalmHoursModel", "has", "(I)I"⟩), (1710, Cond.instanceMethod ⟨"PalmHoursModel", "has", "(I)I"⟩), (1711, Cond.selects "PalmHoursModel" ⟨"PalmHoursModel", "has", "(I)I"⟩ ⟨"PalmHoursModel", "has", "(I)I"⟩), (1712, Cond.code ⟨"PalmHoursModel", "has", "(I)I"⟩ cX12_has 4 (some .int)), (1716, Cond.methodLink "PalmHoursLaw" 41 ⟨"PalmHoursModel", "letter", "(III)I"⟩), (1717, Cond.instanceMethod ⟨"PalmHoursModel", "letter", "(III)I"⟩), (1718, Cond.selects "PalmHoursModel" ⟨"PalmHoursModel", "letter", "(III)I"⟩ ⟨"PalmHoursModel", "letter", "(III)I"⟩), (1719, Cond.code ⟨"PalmHoursModel", "letter", "(III)I"⟩ cX12_letter 9 (some .int)), (1721, Cond.methodLink "PalmHoursLaw" 46 ⟨"PalmHoursModel", "thing", "(II)I"⟩), (1722, Cond.instanceMethod ⟨"PalmHoursModel", "thing", "(II)I"⟩), (1723, Cond.selects "PalmHoursModel" ⟨"PalmHoursModel", "thing", "(II)I"⟩ ⟨"PalmHoursModel", "thing", "(II)I"⟩), (1724, Cond.code ⟨"PalmHoursModel", "thing", "(II)I"⟩ cX12_thing 3 (some .int)), (1729, Cond.methodLink "PalmHoursLaw" 50 ⟨"PalmHoursModel", "corner", "(II)I"⟩), (1730, Cond.instanceMethod ⟨"PalmHoursModel", "corner", "(II)I"⟩), (1731, Cond.selects "PalmHoursModel" ⟨"PalmHoursModel", "corner", "(II)I"⟩ ⟨"PalmHoursModel", "corner", "(II)I"⟩), (1732, Cond.code ⟨"PalmHoursModel", "corner", "(II)I"⟩ cX12_corner 3 (some .int)), (1737, Cond.methodLink "PalmHoursLaw" 54 ⟨"PalmHoursModel", "doing", "(II)I"⟩), (1738, Cond.instanceMethod ⟨"PalmHoursModel", "doing", "(II)I"⟩), (1739, Cond.selects "PalmHoursModel" ⟨"PalmHoursModel", "doing", "(II)I"⟩ ⟨"PalmHoursModel", "doing", "(II)I"⟩), (1740, Cond.code ⟨"PalmHoursModel", "doing", "(II)I"⟩ cX12_doing 3 (some .int)), (1745, Cond.methodLink "PalmHoursLaw" 58 ⟨"PalmHoursModel", "later", "(II)I"⟩), (1769, Cond.methodLink "PalmHoursLaw" 62 ⟨"PalmHoursModel", "when", "(I)I"⟩), (1770, Cond.instanceMethod ⟨"PalmHoursModel", "when", "(I)I"⟩), (1771, Cond.selects "PalmHoursModel" ⟨"PalmHoursModel", "when", "(I)I"⟩ ⟨"PalmHoursModel", "when", "(I)I"⟩), (1772, Cond.code ⟨"PalmHoursModel", "when", "(I)I"⟩ cX12_when 3 (some .int)), (1773, Cond.methodLink "PalmHoursLaw" 66 ⟨"PalmHoursModel", "alike", "(II)I"⟩), (1774, Cond.instanceMethod ⟨"PalmHoursModel", "alike", "(II)I"⟩), (1775, Cond.selects "PalmHoursModel" ⟨"PalmHoursModel", "alike", "(II)I"⟩ ⟨"PalmHoursModel", "alike", "(II)I"⟩), (1776, Cond.code ⟨"PalmHoursModel", "alike", "(II)I"⟩ cX12_alike 4 (some .int)), (1777, Cond.methodLink "PalmHoursLaw" 70 ⟨"PalmHoursModel", "plan", "(III)I"⟩), (1778, Cond.instanceMethod ⟨"PalmHoursModel", "plan", "(III)I"⟩), (1779, Cond.selects "PalmHoursModel" ⟨"PalmHoursModel", "plan", "(III)I"⟩ ⟨"PalmHoursModel", "plan", "(III)I"⟩), (1780, Cond.code ⟨"PalmHoursModel", "plan", "(III)I"⟩ cX12_plan 10 (some .int)), (1785, Cond.methodLink "PalmHoursLaw" 74 ⟨"PalmHoursModel", "evening", "(II)I"⟩), (1786, Cond.instanceMethod ⟨"PalmHoursModel", "evening", "(II)I"⟩), (1787, Cond.selects "PalmHoursModel" ⟨"PalmHoursModel", "evening", "(II)I"⟩ ⟨"PalmHoursModel", "evening", "(II)I"⟩), (1788, Cond.code ⟨"PalmHoursModel", "evening", "(II)I"⟩ cX12_evening 10 (some .int)), (1789, Cond.methodLink "PalmHoursLaw" 79 ⟨"PalmHoursModel", "odds", "(III)J"⟩), (1790, Cond.instanceMethod ⟨"PalmHoursModel", "odds", "(III)J"⟩), (1791, Cond.selects "PalmHoursModel" ⟨"PalmHoursModel", "odds", "(III)J"⟩ ⟨"PalmHoursModel", "odds", "(III)J"⟩)]
theorem b41w1 : pkW lw_tbl 0 b41wl1 = true := by decide +kernel
theorem w1170 : Cond.methodLink "PalmHoursLaw" 116 ⟨"PalmHours", "take", "(I)I"⟩ ∈ lw_g := pkW_i b41w1 0 rfl
theorem w1171 : Cond.instanceMethod ⟨"PalmHours", "take", "(I)I"⟩ ∈ lw_g := pkW_i b41w1 1 rfl
theorem w1172 : Cond.selects "PalmHours" ⟨"PalmHours", "take", "(I)I"⟩ ⟨"PalmHours", "take", "(I)I"⟩ ∈ lw_g := pkW_i b41w1 2 rfl
theorem w1173 : Cond.code ⟨"PalmHours", "take", "(I)I"⟩ cX11_take 2 (some .int) ∈ lw_g := pkW_i b41w1 3 rfl
theorem w1174 : Cond.methodLink "PalmHoursLaw" 120 ⟨"PalmHours", "undo", "()Z"⟩ ∈ lw_g := pkW_i b41w1 4 rfl
theorem w1175 : Cond.instanceMethod ⟨"PalmHours", "undo", "()Z"⟩ ∈ lw_g := pkW_i b41w1 5 rfl
theorem w1176 : Cond.selects "PalmHours" ⟨"PalmHours", "undo", "()Z"⟩ ⟨"PalmHours", "undo", "()Z"⟩ ∈ lw_g := pkW_i b41w1 6 rfl
theorem w1177 : Cond.code ⟨"PalmHours", "undo", "()Z"⟩ cX11_undo 1 (some .boolean) ∈ lw_g := pkW_i b41w1 7 rfl
theorem w1186 : Cond.methodLink "PalmHoursLaw" 125 ⟨"PalmHours", "seed", "(I)Z"⟩ ∈ lw_g := pkW_i b41w1 8 rfl
theorem w1187 : Cond.instanceMethod ⟨"PalmHours", "seed", "(I)Z"⟩ ∈ lw_g := pkW_i b41w1 9 rfl
theorem w1188 : Cond.selects "PalmHours" ⟨"PalmHours", "seed", "(I)Z"⟩ ⟨"PalmHours", "seed", "(I)Z"⟩ ∈ lw_g := pkW_i b41w1 10 rfl
theorem w1189 : Cond.code ⟨"PalmHours", "seed", "(I)Z"⟩ cX11_seed 2 (some .boolean) ∈ lw_g := pkW_i b41w1 11 rfl
theorem w1190 : Cond.methodLink "PalmHoursLaw" 129 ⟨"PalmHours", "kept", "(II)I"⟩ ∈ lw_g := pkW_i b41w1 12 rfl
theorem w1191 : Cond.instanceMethod ⟨"PalmHours", "kept", "(II)I"⟩ ∈ lw_g := pkW_i b41w1 13 rfl
theorem w1192 : Cond.selects "PalmHours" ⟨"PalmHours", "kept", "(II)I"⟩ ⟨"PalmHours", "kept", "(II)I"⟩ ∈ lw_g := pkW_i b41w1 14 rfl
theorem w1193 : Cond.code ⟨"PalmHours", "kept", "(II)I"⟩ cX11_kept 3 (some .int) ∈ lw_g := pkW_i b41w1 15 rfl
theorem w1194 : Cond.methodLink "PalmHoursLaw" 133 ⟨"PalmHours", "image", "()I"⟩ ∈ lw_g := pkW_i b41w1 16 rfl
theorem w1195 : Cond.instanceMethod ⟨"PalmHours", "image", "()I"⟩ ∈ lw_g := pkW_i b41w1 17 rfl
theorem w1196 : Cond.selects "PalmHours" ⟨"PalmHours", "image", "()I"⟩ ⟨"PalmHours", "image", "()I"⟩ ∈ lw_g := pkW_i b41w1 18 rfl
theorem w1197 : Cond.code ⟨"PalmHours", "image", "()I"⟩ cX11_image 1 (some .int) ∈ lw_g := pkW_i b41w1 19 rfl
theorem w1209 : Cond.methodLink "PalmHoursLaw" 137 ⟨"PalmHours", "octet", "(I)I"⟩ ∈ lw_g := pkW_i b41w1 20 rfl
theorem w1210 : Cond.instanceMethod ⟨"PalmHours", "octet", "(I)I"⟩ ∈ lw_g := pkW_i b41w1 21 rfl
theorem w1211 : Cond.selects "PalmHours" ⟨"PalmHours", "octet", "(I)I"⟩ ⟨"PalmHours", "octet", "(I)I"⟩ ∈ lw_g := pkW_i b41w1 22 rfl
theorem w1212 : Cond.code ⟨"PalmHours", "octet", "(I)I"⟩ cX11_octet 2 (some .int) ∈ lw_g := pkW_i b41w1 23 rfl
theorem w1213 : Cond.methodLink "PalmHoursLaw" 141 ⟨"PalmHours", "on", "()Z"⟩ ∈ lw_g := pkW_i b41w1 24 rfl
theorem w1214 : Cond.instanceMethod ⟨"PalmHours", "on", "()Z"⟩ ∈ lw_g := pkW_i b41w1 25 rfl
theorem w1215 : Cond.selects "PalmHours" ⟨"PalmHours", "on", "()Z"⟩ ⟨"PalmHours", "on", "()Z"⟩ ∈ lw_g := pkW_i b41w1 26 rfl
theorem w1216 : Cond.code ⟨"PalmHours", "on", "()Z"⟩ cX11_on 2 (some .boolean) ∈ lw_g := pkW_i b41w1 27 rfl
theorem w1232 : Cond.methodLink "PalmHoursLaw" 145 ⟨"PalmHours", "status", "(I)I"⟩ ∈ lw_g := pkW_i b41w1 28 rfl
theorem w1233 : Cond.instanceMethod ⟨"PalmHours", "status", "(I)I"⟩ ∈ lw_g := pkW_i b41w1 29 rfl
theorem w1234 : Cond.selects "PalmHours" ⟨"PalmHours", "status", "(I)I"⟩ ⟨"PalmHours", "status", "(I)I"⟩ ∈ lw_g := pkW_i b41w1 30 rfl
theorem w1235 : Cond.code ⟨"PalmHours", "status", "(I)I"⟩ cX11_status 2 (some .int) ∈ lw_g := pkW_i b41w1 31 rfl
theorem w1449 : Cond.methodLink "PalmHoursLaw" 17 ⟨"PalmHoursModel", "feed", "(IIIII)I"⟩ ∈ lw_g := pkW_i b41w1 32 rfl
theorem w1450 : Cond.instanceMethod ⟨"PalmHoursModel", "feed", "(IIIII)I"⟩ ∈ lw_g := pkW_i b41w1 33 rfl
theorem w1451 : Cond.selects "PalmHoursModel" ⟨"PalmHoursModel", "feed", "(IIIII)I"⟩ ⟨"PalmHoursModel", "feed", "(IIIII)I"⟩ ∈ lw_g := pkW_i b41w1 34 rfl
theorem w1452 : Cond.code ⟨"PalmHoursModel", "feed", "(IIIII)I"⟩ cX12_feed 6 (some .int) ∈ lw_g := pkW_i b41w1 35 rfl
theorem w1461 : Cond.methodLink "PalmHoursLaw" 22 ⟨"PalmHoursModel", "end", "(I)Z"⟩ ∈ lw_g := pkW_i b41w1 36 rfl
theorem w1462 : Cond.instanceMethod ⟨"PalmHoursModel", "end", "(I)Z"⟩ ∈ lw_g := pkW_i b41w1 37 rfl
theorem w1463 : Cond.selects "PalmHoursModel" ⟨"PalmHoursModel", "end", "(I)Z"⟩ ⟨"PalmHoursModel", "end", "(I)Z"⟩ ∈ lw_g := pkW_i b41w1 38 rfl
theorem w1464 : Cond.code ⟨"PalmHoursModel", "end", "(I)Z"⟩ cX12_end 2 (some .boolean) ∈ lw_g := pkW_i b41w1 39 rfl
theorem w1465 : Cond.methodLink "PalmHoursLaw" 27 ⟨"PalmHoursModel", "town", "()I"⟩ ∈ lw_g := pkW_i b41w1 40 rfl
theorem w1466 : Cond.instanceMethod ⟨"PalmHoursModel", "town", "()I"⟩ ∈ lw_g := pkW_i b41w1 41 rfl
theorem w1467 : Cond.selects "PalmHoursModel" ⟨"PalmHoursModel", "town", "()I"⟩ ⟨"PalmHoursModel", "town", "()I"⟩ ∈ lw_g := pkW_i b41w1 42 rfl
theorem w1468 : Cond.code ⟨"PalmHoursModel", "town", "()I"⟩ cX12_town 3 (some .int) ∈ lw_g := pkW_i b41w1 43 rfl
theorem w1689 : Cond.methodLink "PalmHoursLaw" 32 ⟨"PalmHoursModel", "fault", "(I)I"⟩ ∈ lw_g := pkW_i b41w1 44 rfl
theorem w1690 : Cond.instanceMethod ⟨"PalmHoursModel", "fault", "(I)I"⟩ ∈ lw_g := pkW_i b41w1 45 rfl
theorem w1691 : Cond.selects "PalmHoursModel" ⟨"PalmHoursModel", "fault", "(I)I"⟩ ⟨"PalmHoursModel", "fault", "(I)I"⟩ ∈ lw_g := pkW_i b41w1 46 rfl
theorem w1692 : Cond.code ⟨"PalmHoursModel", "fault", "(I)I"⟩ cX12_fault 2 (some .int) ∈ lw_g := pkW_i b41w1 47 rfl
theorem w1693 : Cond.methodLink "PalmHoursLaw" 148 ⟨"PalmHoursModel", "status", "(I)I"⟩ ∈ lw_g := pkW_i b41w1 48 rfl
theorem w1694 : Cond.instanceMethod ⟨"PalmHoursModel", "status", "(I)I"⟩ ∈ lw_g := pkW_i b41w1 49 rfl
theorem w1695 : Cond.selects "PalmHoursModel" ⟨"PalmHoursModel", "status", "(I)I"⟩ ⟨"PalmHoursModel", "status", "(I)I"⟩ ∈ lw_g := pkW_i b41w1 50 rfl
theorem w1696 : Cond.code ⟨"PalmHoursModel", "status", "(I)I"⟩ cX12_status 2 (some .int) ∈ lw_g := pkW_i b41w1 51 rfl
theorem w1697 : Cond.methodLink "PalmHoursLaw" 124 ⟨"PalmHoursModel", "undo", "()Z"⟩ ∈ lw_g := pkW_i b41w1 52 rfl
theorem w1698 : Cond.instanceMethod ⟨"PalmHoursModel", "undo", "()Z"⟩ ∈ lw_g := pkW_i b41w1 53 rfl
theorem w1699 : Cond.selects "PalmHoursModel" ⟨"PalmHoursModel", "undo", "()Z"⟩ ⟨"PalmHoursModel", "undo", "()Z"⟩ ∈ lw_g := pkW_i b41w1 54 rfl
theorem w1700 : Cond.code ⟨"PalmHoursModel", "undo", "()Z"⟩ cX12_undo 1 (some .boolean) ∈ lw_g := pkW_i b41w1 55 rfl
theorem w1709 : Cond.methodLink "PalmHoursLaw" 36 ⟨"PalmHoursModel", "has", "(I)I"⟩ ∈ lw_g := pkW_i b41w1 56 rfl
theorem w1710 : Cond.instanceMethod ⟨"PalmHoursModel", "has", "(I)I"⟩ ∈ lw_g := pkW_i b41w1 57 rfl
theorem w1711 : Cond.selects "PalmHoursModel" ⟨"PalmHoursModel", "has", "(I)I"⟩ ⟨"PalmHoursModel", "has", "(I)I"⟩ ∈ lw_g := pkW_i b41w1 58 rfl
theorem w1712 : Cond.code ⟨"PalmHoursModel", "has", "(I)I"⟩ cX12_has 4 (some .int) ∈ lw_g := pkW_i b41w1 59 rfl
theorem w1716 : Cond.methodLink "PalmHoursLaw" 41 ⟨"PalmHoursModel", "letter", "(III)I"⟩ ∈ lw_g := pkW_i b41w1 60 rfl
theorem w1717 : Cond.instanceMethod ⟨"PalmHoursModel", "letter", "(III)I"⟩ ∈ lw_g := pkW_i b41w1 61 rfl
theorem w1718 : Cond.selects "PalmHoursModel" ⟨"PalmHoursModel", "letter", "(III)I"⟩ ⟨"PalmHoursModel", "letter", "(III)I"⟩ ∈ lw_g := pkW_i b41w1 62 rfl
theorem w1719 : Cond.code ⟨"PalmHoursModel", "letter", "(III)I"⟩ cX12_letter 9 (some .int) ∈ lw_g := pkW_i b41w1 63 rfl
theorem w1721 : Cond.methodLink "PalmHoursLaw" 46 ⟨"PalmHoursModel", "thing", "(II)I"⟩ ∈ lw_g := pkW_i b41w1 64 rfl
theorem w1722 : Cond.instanceMethod ⟨"PalmHoursModel", "thing", "(II)I"⟩ ∈ lw_g := pkW_i b41w1 65 rfl
theorem w1723 : Cond.selects "PalmHoursModel" ⟨"PalmHoursModel", "thing", "(II)I"⟩ ⟨"PalmHoursModel", "thing", "(II)I"⟩ ∈ lw_g := pkW_i b41w1 66 rfl
theorem w1724 : Cond.code ⟨"PalmHoursModel", "thing", "(II)I"⟩ cX12_thing 3 (some .int) ∈ lw_g := pkW_i b41w1 67 rfl
theorem w1729 : Cond.methodLink "PalmHoursLaw" 50 ⟨"PalmHoursModel", "corner", "(II)I"⟩ ∈ lw_g := pkW_i b41w1 68 rfl
theorem w1730 : Cond.instanceMethod ⟨"PalmHoursModel", "corner", "(II)I"⟩ ∈ lw_g := pkW_i b41w1 69 rfl
theorem w1731 : Cond.selects "PalmHoursModel" ⟨"PalmHoursModel", "corner", "(II)I"⟩ ⟨"PalmHoursModel", "corner", "(II)I"⟩ ∈ lw_g := pkW_i b41w1 70 rfl
theorem w1732 : Cond.code ⟨"PalmHoursModel", "corner", "(II)I"⟩ cX12_corner 3 (some .int) ∈ lw_g := pkW_i b41w1 71 rfl
theorem w1737 : Cond.methodLink "PalmHoursLaw" 54 ⟨"PalmHoursModel", "doing", "(II)I"⟩ ∈ lw_g := pkW_i b41w1 72 rfl
theorem w1738 : Cond.instanceMethod ⟨"PalmHoursModel", "doing", "(II)I"⟩ ∈ lw_g := pkW_i b41w1 73 rfl
theorem w1739 : Cond.selects "PalmHoursModel" ⟨"PalmHoursModel", "doing", "(II)I"⟩ ⟨"PalmHoursModel", "doing", "(II)I"⟩ ∈ lw_g := pkW_i b41w1 74 rfl
theorem w1740 : Cond.code ⟨"PalmHoursModel", "doing", "(II)I"⟩ cX12_doing 3 (some .int) ∈ lw_g := pkW_i b41w1 75 rfl
theorem w1745 : Cond.methodLink "PalmHoursLaw" 58 ⟨"PalmHoursModel", "later", "(II)I"⟩ ∈ lw_g := pkW_i b41w1 76 rfl
theorem w1769 : Cond.methodLink "PalmHoursLaw" 62 ⟨"PalmHoursModel", "when", "(I)I"⟩ ∈ lw_g := pkW_i b41w1 77 rfl
theorem w1770 : Cond.instanceMethod ⟨"PalmHoursModel", "when", "(I)I"⟩ ∈ lw_g := pkW_i b41w1 78 rfl
theorem w1771 : Cond.selects "PalmHoursModel" ⟨"PalmHoursModel", "when", "(I)I"⟩ ⟨"PalmHoursModel", "when", "(I)I"⟩ ∈ lw_g := pkW_i b41w1 79 rfl
theorem w1772 : Cond.code ⟨"PalmHoursModel", "when", "(I)I"⟩ cX12_when 3 (some .int) ∈ lw_g := pkW_i b41w1 80 rfl
theorem w1773 : Cond.methodLink "PalmHoursLaw" 66 ⟨"PalmHoursModel", "alike", "(II)I"⟩ ∈ lw_g := pkW_i b41w1 81 rfl
theorem w1774 : Cond.instanceMethod ⟨"PalmHoursModel", "alike", "(II)I"⟩ ∈ lw_g := pkW_i b41w1 82 rfl
theorem w1775 : Cond.selects "PalmHoursModel" ⟨"PalmHoursModel", "alike", "(II)I"⟩ ⟨"PalmHoursModel", "alike", "(II)I"⟩ ∈ lw_g := pkW_i b41w1 83 rfl
theorem w1776 : Cond.code ⟨"PalmHoursModel", "alike", "(II)I"⟩ cX12_alike 4 (some .int) ∈ lw_g := pkW_i b41w1 84 rfl
theorem w1777 : Cond.methodLink "PalmHoursLaw" 70 ⟨"PalmHoursModel", "plan", "(III)I"⟩ ∈ lw_g := pkW_i b41w1 85 rfl
theorem w1778 : Cond.instanceMethod ⟨"PalmHoursModel", "plan", "(III)I"⟩ ∈ lw_g := pkW_i b41w1 86 rfl
theorem w1779 : Cond.selects "PalmHoursModel" ⟨"PalmHoursModel", "plan", "(III)I"⟩ ⟨"PalmHoursModel", "plan", "(III)I"⟩ ∈ lw_g := pkW_i b41w1 87 rfl
theorem w1780 : Cond.code ⟨"PalmHoursModel", "plan", "(III)I"⟩ cX12_plan 10 (some .int) ∈ lw_g := pkW_i b41w1 88 rfl
theorem w1785 : Cond.methodLink "PalmHoursLaw" 74 ⟨"PalmHoursModel", "evening", "(II)I"⟩ ∈ lw_g := pkW_i b41w1 89 rfl
theorem w1786 : Cond.instanceMethod ⟨"PalmHoursModel", "evening", "(II)I"⟩ ∈ lw_g := pkW_i b41w1 90 rfl
theorem w1787 : Cond.selects "PalmHoursModel" ⟨"PalmHoursModel", "evening", "(II)I"⟩ ⟨"PalmHoursModel", "evening", "(II)I"⟩ ∈ lw_g := pkW_i b41w1 91 rfl
theorem w1788 : Cond.code ⟨"PalmHoursModel", "evening", "(II)I"⟩ cX12_evening 10 (some .int) ∈ lw_g := pkW_i b41w1 92 rfl
theorem w1789 : Cond.methodLink "PalmHoursLaw" 79 ⟨"PalmHoursModel", "odds", "(III)J"⟩ ∈ lw_g := pkW_i b41w1 93 rfl
theorem w1790 : Cond.instanceMethod ⟨"PalmHoursModel", "odds", "(III)J"⟩ ∈ lw_g := pkW_i b41w1 94 rfl
theorem w1791 : Cond.selects "PalmHoursModel" ⟨"PalmHoursModel", "odds", "(III)J"⟩ ⟨"PalmHoursModel", "odds", "(III)J"⟩ ∈ lw_g := pkW_i b41w1 95 rfl
def b41wl2 : List (Nat × Cond) := [(1792, Cond.code ⟨"PalmHoursModel", "odds", "(III)J"⟩ cX12_odds 14 (some .long)), (1794, Cond.methodLink "PalmHoursLaw" 83 ⟨"PalmHoursModel", "way", "(II)I"⟩), (1798, Cond.methodLink "PalmHoursLaw" 87 ⟨"PalmHoursModel", "arrive", "(II)I"⟩), (1799, Cond.instanceMethod ⟨"PalmHoursModel", "arrive", "(II)I"⟩), (1800, Cond.selects "PalmHoursModel" ⟨"PalmHoursModel", "arrive", "(II)I"⟩ ⟨"PalmHoursModel", "arrive", "(II)I"⟩), (1801, Cond.code ⟨"PalmHoursModel", "arrive", "(II)I"⟩ cX12_arrive 4 (some .int)), (1804, Cond.methodLink "PalmHoursLaw" 91 ⟨"PalmHoursModel", "early", "(I)I"⟩), (1805, Cond.instanceMethod ⟨"PalmHoursModel", "early", "(I)I"⟩), (1806, Cond.selects "PalmHoursModel" ⟨"PalmHoursModel", "early", "(I)I"⟩ ⟨"PalmHoursModel", "early", "(I)I"⟩), (1807, Cond.code ⟨"PalmHoursModel", "early", "(I)I"⟩ cX12_early 6 (some .int)), (1808, Cond.methodLink "PalmHoursLaw" 95 ⟨"PalmHoursModel", "see", "()I"⟩), (1809, Cond.instanceMethod ⟨"PalmHoursModel", "see", "()I"⟩), (1810, Cond.selects "PalmHoursModel" ⟨"PalmHoursModel", "see", "()I"⟩ ⟨"PalmHoursModel", "see", "()I"⟩), (1811, Cond.code ⟨"PalmHoursModel", "see", "()I"⟩ cX12_see 4 (some .int)), (1812, Cond.methodLink "PalmHoursLaw" 99 ⟨"PalmHoursModel", "held", "(I)I"⟩), (1813, Cond.instanceMethod ⟨"PalmHoursModel", "held", "(I)I"⟩), (1814, Cond.selects "PalmHoursModel" ⟨"PalmHoursModel", "held", "(I)I"⟩ ⟨"PalmHoursModel", "held", "(I)I"⟩), (1815, Cond.code ⟨"PalmHoursModel", "held", "(I)I"⟩ cX12_held 2 (some .int)), (1820, Cond.methodLink "PalmHoursLaw" 103 ⟨"PalmHoursModel", "tells", "(II)I"⟩), (1821, Cond.instanceMethod ⟨"PalmHoursModel", "tells", "(II)I"⟩), (1822, Cond.selects "PalmHoursModel" ⟨"PalmHoursModel", "tells", "(II)I"⟩ ⟨"PalmHoursModel", "tells", "(II)I"⟩), (1823, Cond.code ⟨"PalmHoursModel", "tells", "(II)I"⟩ cX12_tells 11 (some .int)), (1824, Cond.methodLink "PalmHoursLaw" 107 ⟨"PalmHoursModel", "minutes", "(I)I"⟩), (1825, Cond.instanceMethod ⟨"PalmHoursModel", "minutes", "(I)I"⟩), (1826, Cond.selects "PalmHoursModel" ⟨"PalmHoursModel", "minutes", "(I)I"⟩ ⟨"PalmHoursModel", "minutes", "(I)I"⟩), (1827, Cond.code ⟨"PalmHoursModel", "minutes", "(I)I"⟩ cX12_minutes 4 (some .int)), (1832, Cond.methodLink "PalmHoursLaw" 111 ⟨"PalmHoursModel", "chance", "(I)I"⟩), (1833, Cond.instanceMethod ⟨"PalmHoursModel", "chance", "(I)I"⟩), (1834, Cond.selects "PalmHoursModel" ⟨"PalmHoursModel", "chance", "(I)I"⟩ ⟨"PalmHoursModel", "chance", "(I)I"⟩), (1835, Cond.code ⟨"PalmHoursModel", "chance", "(I)I"⟩ cX12_chance 5 (some .int)), (1844, Cond.methodLink "PalmHoursLaw" 115 ⟨"PalmHoursModel", "give", "(II)I"⟩), (1845, Cond.instanceMethod ⟨"PalmHoursModel", "give", "(II)I"⟩), (1846, Cond.selects "PalmHoursModel" ⟨"PalmHoursModel", "give", "(II)I"⟩ ⟨"PalmHoursModel", "give", "(II)I"⟩), (1847, Cond.code ⟨"PalmHoursModel", "give", "(II)I"⟩ cX12_give 3 (some .int)), (1848, Cond.methodLink "PalmHoursLaw" 119 ⟨"PalmHoursModel", "take", "(I)I"⟩), (1849, Cond.instanceMethod ⟨"PalmHoursModel", "take", "(I)I"⟩), (1850, Cond.selects "PalmHoursModel" ⟨"PalmHoursModel", "take", "(I)I"⟩ ⟨"PalmHoursModel", "take", "(I)I"⟩), (1851, Cond.code ⟨"PalmHoursModel", "take", "(I)I"⟩ cX12_take 2 (some .int)), (1852, Cond.methodLink "PalmHoursLaw" 128 ⟨"PalmHoursModel", "seed", "(I)Z"⟩), (1853, Cond.instanceMethod ⟨"PalmHoursModel", "seed", "(I)Z"⟩), (1854, Cond.selects "PalmHoursModel" ⟨"PalmHoursModel", "seed", "(I)Z"⟩ ⟨"PalmHoursModel", "seed", "(I)Z"⟩), (1855, Cond.code ⟨"PalmHoursModel", "seed", "(I)Z"⟩ cX12_seed 2 (some .boolean)), (1856, Cond.methodLink "PalmHoursLaw" 132 ⟨"PalmHoursModel", "kept", "(II)I"⟩), (1857, Cond.instanceMethod ⟨"PalmHoursModel", "kept", "(II)I"⟩), (1858, Cond.selects "PalmHoursModel" ⟨"PalmHoursModel", "kept", "(II)I"⟩ ⟨"PalmHoursModel", "kept", "(II)I"⟩), (1859, Cond.code ⟨"PalmHoursModel", "kept", "(II)I"⟩ cX12_kept 3 (some .int)), (1860, Cond.methodLink "PalmHoursLaw" 136 ⟨"PalmHoursModel", "image", "()I"⟩), (1861, Cond.instanceMethod ⟨"PalmHoursModel", "image", "()I"⟩), (1862, Cond.selects "PalmHoursModel" ⟨"PalmHoursModel", "image", "()I"⟩ ⟨"PalmHoursModel", "image", "()I"⟩), (1863, Cond.code ⟨"PalmHoursModel", "image", "()I"⟩ cX12_image 3 (some .int)), (1868, Cond.methodLink "PalmHoursLaw" 140 ⟨"PalmHoursModel", "octet", "(I)I"⟩), (1869, Cond.instanceMethod ⟨"PalmHoursModel", "octet", "(I)I"⟩), (1870, Cond.selects "PalmHoursModel" ⟨"PalmHoursModel", "octet", "(I)I"⟩ ⟨"PalmHoursModel", "octet", "(I)I"⟩), (1871, Cond.code ⟨"PalmHoursModel", "octet", "(I)I"⟩ cX12_octet 2 (some .int)), (1872, Cond.methodLink "PalmHoursLaw" 144 ⟨"PalmHoursModel", "on", "()Z"⟩), (1873, Cond.instanceMethod ⟨"PalmHoursModel", "on", "()Z"⟩), (1874, Cond.selects "PalmHoursModel" ⟨"PalmHoursModel", "on", "()Z"⟩ ⟨"PalmHoursModel", "on", "()Z"⟩), (1875, Cond.code ⟨"PalmHoursModel", "on", "()Z"⟩ cX12_on 2 (some .boolean))]
theorem b41w2 : pkW lw_tbl 0 b41wl2 = true := by decide +kernel
theorem w1792 : Cond.code ⟨"PalmHoursModel", "odds", "(III)J"⟩ cX12_odds 14 (some .long) ∈ lw_g := pkW_i b41w2 0 rfl
theorem w1794 : Cond.methodLink "PalmHoursLaw" 83 ⟨"PalmHoursModel", "way", "(II)I"⟩ ∈ lw_g := pkW_i b41w2 1 rfl
theorem w1798 : Cond.methodLink "PalmHoursLaw" 87 ⟨"PalmHoursModel", "arrive", "(II)I"⟩ ∈ lw_g := pkW_i b41w2 2 rfl
theorem w1799 : Cond.instanceMethod ⟨"PalmHoursModel", "arrive", "(II)I"⟩ ∈ lw_g := pkW_i b41w2 3 rfl
theorem w1800 : Cond.selects "PalmHoursModel" ⟨"PalmHoursModel", "arrive", "(II)I"⟩ ⟨"PalmHoursModel", "arrive", "(II)I"⟩ ∈ lw_g := pkW_i b41w2 4 rfl
theorem w1801 : Cond.code ⟨"PalmHoursModel", "arrive", "(II)I"⟩ cX12_arrive 4 (some .int) ∈ lw_g := pkW_i b41w2 5 rfl
theorem w1804 : Cond.methodLink "PalmHoursLaw" 91 ⟨"PalmHoursModel", "early", "(I)I"⟩ ∈ lw_g := pkW_i b41w2 6 rfl
theorem w1805 : Cond.instanceMethod ⟨"PalmHoursModel", "early", "(I)I"⟩ ∈ lw_g := pkW_i b41w2 7 rfl
theorem w1806 : Cond.selects "PalmHoursModel" ⟨"PalmHoursModel", "early", "(I)I"⟩ ⟨"PalmHoursModel", "early", "(I)I"⟩ ∈ lw_g := pkW_i b41w2 8 rfl
theorem w1807 : Cond.code ⟨"PalmHoursModel", "early", "(I)I"⟩ cX12_early 6 (some .int) ∈ lw_g := pkW_i b41w2 9 rfl
theorem w1808 : Cond.methodLink "PalmHoursLaw" 95 ⟨"PalmHoursModel", "see", "()I"⟩ ∈ lw_g := pkW_i b41w2 10 rfl
theorem w1809 : Cond.instanceMethod ⟨"PalmHoursModel", "see", "()I"⟩ ∈ lw_g := pkW_i b41w2 11 rfl
theorem w1810 : Cond.selects "PalmHoursModel" ⟨"PalmHoursModel", "see", "()I"⟩ ⟨"PalmHoursModel", "see", "()I"⟩ ∈ lw_g := pkW_i b41w2 12 rfl
theorem w1811 : Cond.code ⟨"PalmHoursModel", "see", "()I"⟩ cX12_see 4 (some .int) ∈ lw_g := pkW_i b41w2 13 rfl
theorem w1812 : Cond.methodLink "PalmHoursLaw" 99 ⟨"PalmHoursModel", "held", "(I)I"⟩ ∈ lw_g := pkW_i b41w2 14 rfl
theorem w1813 : Cond.instanceMethod ⟨"PalmHoursModel", "held", "(I)I"⟩ ∈ lw_g := pkW_i b41w2 15 rfl
theorem w1814 : Cond.selects "PalmHoursModel" ⟨"PalmHoursModel", "held", "(I)I"⟩ ⟨"PalmHoursModel", "held", "(I)I"⟩ ∈ lw_g := pkW_i b41w2 16 rfl
theorem w1815 : Cond.code ⟨"PalmHoursModel", "held", "(I)I"⟩ cX12_held 2 (some .int) ∈ lw_g := pkW_i b41w2 17 rfl
theorem w1820 : Cond.methodLink "PalmHoursLaw" 103 ⟨"PalmHoursModel", "tells", "(II)I"⟩ ∈ lw_g := pkW_i b41w2 18 rfl
theorem w1821 : Cond.instanceMethod ⟨"PalmHoursModel", "tells", "(II)I"⟩ ∈ lw_g := pkW_i b41w2 19 rfl
theorem w1822 : Cond.selects "PalmHoursModel" ⟨"PalmHoursModel", "tells", "(II)I"⟩ ⟨"PalmHoursModel", "tells", "(II)I"⟩ ∈ lw_g := pkW_i b41w2 20 rfl
theorem w1823 : Cond.code ⟨"PalmHoursModel", "tells", "(II)I"⟩ cX12_tells 11 (some .int) ∈ lw_g := pkW_i b41w2 21 rfl
theorem w1824 : Cond.methodLink "PalmHoursLaw" 107 ⟨"PalmHoursModel", "minutes", "(I)I"⟩ ∈ lw_g := pkW_i b41w2 22 rfl
theorem w1825 : Cond.instanceMethod ⟨"PalmHoursModel", "minutes", "(I)I"⟩ ∈ lw_g := pkW_i b41w2 23 rfl
theorem w1826 : Cond.selects "PalmHoursModel" ⟨"PalmHoursModel", "minutes", "(I)I"⟩ ⟨"PalmHoursModel", "minutes", "(I)I"⟩ ∈ lw_g := pkW_i b41w2 24 rfl
theorem w1827 : Cond.code ⟨"PalmHoursModel", "minutes", "(I)I"⟩ cX12_minutes 4 (some .int) ∈ lw_g := pkW_i b41w2 25 rfl
theorem w1832 : Cond.methodLink "PalmHoursLaw" 111 ⟨"PalmHoursModel", "chance", "(I)I"⟩ ∈ lw_g := pkW_i b41w2 26 rfl
theorem w1833 : Cond.instanceMethod ⟨"PalmHoursModel", "chance", "(I)I"⟩ ∈ lw_g := pkW_i b41w2 27 rfl
theorem w1834 : Cond.selects "PalmHoursModel" ⟨"PalmHoursModel", "chance", "(I)I"⟩ ⟨"PalmHoursModel", "chance", "(I)I"⟩ ∈ lw_g := pkW_i b41w2 28 rfl
theorem w1835 : Cond.code ⟨"PalmHoursModel", "chance", "(I)I"⟩ cX12_chance 5 (some .int) ∈ lw_g := pkW_i b41w2 29 rfl
theorem w1844 : Cond.methodLink "PalmHoursLaw" 115 ⟨"PalmHoursModel", "give", "(II)I"⟩ ∈ lw_g := pkW_i b41w2 30 rfl
theorem w1845 : Cond.instanceMethod ⟨"PalmHoursModel", "give", "(II)I"⟩ ∈ lw_g := pkW_i b41w2 31 rfl
theorem w1846 : Cond.selects "PalmHoursModel" ⟨"PalmHoursModel", "give", "(II)I"⟩ ⟨"PalmHoursModel", "give", "(II)I"⟩ ∈ lw_g := pkW_i b41w2 32 rfl
theorem w1847 : Cond.code ⟨"PalmHoursModel", "give", "(II)I"⟩ cX12_give 3 (some .int) ∈ lw_g := pkW_i b41w2 33 rfl
theorem w1848 : Cond.methodLink "PalmHoursLaw" 119 ⟨"PalmHoursModel", "take", "(I)I"⟩ ∈ lw_g := pkW_i b41w2 34 rfl
theorem w1849 : Cond.instanceMethod ⟨"PalmHoursModel", "take", "(I)I"⟩ ∈ lw_g := pkW_i b41w2 35 rfl
theorem w1850 : Cond.selects "PalmHoursModel" ⟨"PalmHoursModel", "take", "(I)I"⟩ ⟨"PalmHoursModel", "take", "(I)I"⟩ ∈ lw_g := pkW_i b41w2 36 rfl
theorem w1851 : Cond.code ⟨"PalmHoursModel", "take", "(I)I"⟩ cX12_take 2 (some .int) ∈ lw_g := pkW_i b41w2 37 rfl
theorem w1852 : Cond.methodLink "PalmHoursLaw" 128 ⟨"PalmHoursModel", "seed", "(I)Z"⟩ ∈ lw_g := pkW_i b41w2 38 rfl
theorem w1853 : Cond.instanceMethod ⟨"PalmHoursModel", "seed", "(I)Z"⟩ ∈ lw_g := pkW_i b41w2 39 rfl
theorem w1854 : Cond.selects "PalmHoursModel" ⟨"PalmHoursModel", "seed", "(I)Z"⟩ ⟨"PalmHoursModel", "seed", "(I)Z"⟩ ∈ lw_g := pkW_i b41w2 40 rfl
theorem w1855 : Cond.code ⟨"PalmHoursModel", "seed", "(I)Z"⟩ cX12_seed 2 (some .boolean) ∈ lw_g := pkW_i b41w2 41 rfl
theorem w1856 : Cond.methodLink "PalmHoursLaw" 132 ⟨"PalmHoursModel", "kept", "(II)I"⟩ ∈ lw_g := pkW_i b41w2 42 rfl
theorem w1857 : Cond.instanceMethod ⟨"PalmHoursModel", "kept", "(II)I"⟩ ∈ lw_g := pkW_i b41w2 43 rfl
theorem w1858 : Cond.selects "PalmHoursModel" ⟨"PalmHoursModel", "kept", "(II)I"⟩ ⟨"PalmHoursModel", "kept", "(II)I"⟩ ∈ lw_g := pkW_i b41w2 44 rfl
theorem w1859 : Cond.code ⟨"PalmHoursModel", "kept", "(II)I"⟩ cX12_kept 3 (some .int) ∈ lw_g := pkW_i b41w2 45 rfl
theorem w1860 : Cond.methodLink "PalmHoursLaw" 136 ⟨"PalmHoursModel", "image", "()I"⟩ ∈ lw_g := pkW_i b41w2 46 rfl
theorem w1861 : Cond.instanceMethod ⟨"PalmHoursModel", "image", "()I"⟩ ∈ lw_g := pkW_i b41w2 47 rfl
theorem w1862 : Cond.selects "PalmHoursModel" ⟨"PalmHoursModel", "image", "()I"⟩ ⟨"PalmHoursModel", "image", "()I"⟩ ∈ lw_g := pkW_i b41w2 48 rfl
theorem w1863 : Cond.code ⟨"PalmHoursModel", "image", "()I"⟩ cX12_image 3 (some .int) ∈ lw_g := pkW_i b41w2 49 rfl
theorem w1868 : Cond.methodLink "PalmHoursLaw" 140 ⟨"PalmHoursModel", "octet", "(I)I"⟩ ∈ lw_g := pkW_i b41w2 50 rfl
theorem w1869 : Cond.instanceMethod ⟨"PalmHoursModel", "octet", "(I)I"⟩ ∈ lw_g := pkW_i b41w2 51 rfl
theorem w1870 : Cond.selects "PalmHoursModel" ⟨"PalmHoursModel", "octet", "(I)I"⟩ ⟨"PalmHoursModel", "octet", "(I)I"⟩ ∈ lw_g := pkW_i b41w2 52 rfl
theorem w1871 : Cond.code ⟨"PalmHoursModel", "octet", "(I)I"⟩ cX12_octet 2 (some .int) ∈ lw_g := pkW_i b41w2 53 rfl
theorem w1872 : Cond.methodLink "PalmHoursLaw" 144 ⟨"PalmHoursModel", "on", "()Z"⟩ ∈ lw_g := pkW_i b41w2 54 rfl
theorem w1873 : Cond.instanceMethod ⟨"PalmHoursModel", "on", "()Z"⟩ ∈ lw_g := pkW_i b41w2 55 rfl
theorem w1874 : Cond.selects "PalmHoursModel" ⟨"PalmHoursModel", "on", "()Z"⟩ ⟨"PalmHoursModel", "on", "()Z"⟩ ∈ lw_g := pkW_i b41w2 56 rfl
theorem w1875 : Cond.code ⟨"PalmHoursModel", "on", "()Z"⟩ cX12_on 2 (some .boolean) ∈ lw_g := pkW_i b41w2 57 rfl
theorem mdX11_alike : MD yX11_alike cX11_alike 5 (some .int) 2 := ⟨w986, w120, by decide +kernel, by decide⟩
theorem mdX11_arrive : MD yX11_arrive cX11_arrive 4 (some .int) 2 := ⟨w1068, w120, by decide +kernel, by decide⟩
theorem mdX11_chance : MD yX11_chance cX11_chance 4 (some .int) 1 := ⟨w1149, w120, by decide +kernel, by decide⟩
theorem mdX11_corner : MD yX11_corner cX11_corner 3 (some .int) 2 := ⟨w943, w120, by decide +kernel, by decide⟩
theorem mdX11_doing : MD yX11_doing cX11_doing 3 (some .int) 2 := ⟨w957, w120, by decide +kernel, by decide⟩
theorem mdX11_early : MD yX11_early cX11_early 4 (some .int) 1 := ⟨w1072, w120, by decide +kernel, by decide⟩
theorem mdX11_end : MD yX11_end cX11_end 2 (some .boolean) 1 := ⟨w682, w120, by decide +kernel, by decide⟩
theorem mdX11_evening : MD yX11_evening cX11_evening 7 (some .int) 2 := ⟨w1026, w120, by decide +kernel, by decide⟩
theorem mdX11_fault : MD yX11_fault cX11_fault 2 (some .int) 1 := ⟨w907, w120, by decide +kernel, by decide⟩
theorem mdX11_feed : MD yX11_feed cX11_feed 6 (some .int) 5 := ⟨w666, w120, by decide +kernel, by decide⟩
theorem mdX11_give : MD yX11_give cX11_give 3 (some .int) 2 := ⟨w1165, w120, by decide +kernel, by decide⟩
theorem mdX11_has : MD yX11_has cX11_has 2 (some .int) 1 := ⟨w911, w120, by decide +kernel, by decide⟩
theorem mdX11_held : MD yX11_held cX11_held 2 (some .int) 1 := ⟨w1097, w120, by decide +kernel, by decide⟩
theorem mdX11_image : MD yX11_image cX11_image 1 (some .int) 0 := ⟨w1197, w120, by decide +kernel, by decide⟩
theorem mdX11_kept : MD yX11_kept cX11_kept 3 (some .int) 2 := ⟨w1193, w120, by decide +kernel, by decide⟩
theorem mdX11_later : MD yX11_later cX11_later 3 (some .int) 2 := ⟨w961, w120, by decide +kernel, by decide⟩
theorem mdX11_letter : MD yX11_letter cX11_letter 4 (some .int) 3 := ⟨w923, w120, by decide +kernel, by decide⟩
theorem mdX11_minutes : MD yX11_minutes cX11_minutes 4 (some .int) 1 := ⟨w1127, w120, by decide +kernel, by decide⟩
theorem mdX11_octet : MD yX11_octet cX11_octet 2 (some .int) 1 := ⟨w1212, w120, by decide +kernel, by decide⟩
theorem mdX11_odds : MD yX11_odds cX11_odds 6 (some .long) 3 := ⟨w1034, w120, by decide +kernel, by decide⟩
theorem mdX11_on : MD yX11_on cX11_on 2 (some .boolean) 0 := ⟨w1216, w120, by decide +kernel, by decide⟩
theorem mdX11_plan : MD yX11_plan cX11_plan 5 (some .int) 3 := ⟨w990, w120, by decide +kernel, by decide⟩
theorem mdX11_see : MD yX11_see cX11_see 2 (some .int) 0 := ⟨w1087, w120, by decide +kernel, by decide⟩
theorem mdX11_seed : MD yX11_seed cX11_seed 2 (some .boolean) 1 := ⟨w1189, w120, by decide +kernel, by decide⟩
theorem mdX11_status : MD yX11_status cX11_status 2 (some .int) 1 := ⟨w1235, w120, by decide +kernel, by decide⟩
theorem mdX11_take : MD yX11_take cX11_take 2 (some .int) 1 := ⟨w1173, w120, by decide +kernel, by decide⟩
theorem mdX11_tells : MD yX11_tells cX11_tells 9 (some .int) 2 := ⟨w1117, w120, by decide +kernel, by decide⟩
theorem mdX11_thing : MD yX11_thing cX11_thing 3 (some .int) 2 := ⟨w939, w120, by decide +kernel, by decide⟩
theorem mdX11_town : MD yX11_town cX11_town 3 (some .int) 0 := ⟨w686, w120, by decide +kernel, by decide⟩
theorem mdX11_undo : MD yX11_undo cX11_undo 1 (some .boolean) 0 := ⟨w1177, w120, by decide +kernel, by decide⟩
theorem mdX11_way : MD yX11_way cX11_way 3 (some .int) 2 := ⟨w1053, w120, by decide +kernel, by decide⟩
theorem mdX11_when : MD yX11_when cX11_when 4 (some .int) 1 := ⟨w982, w120, by decide +kernel, by decide⟩
theorem mdX12_alike : MD yX12_alike cX12_alike 4 (some .int) 2 := ⟨w1776, w137, by decide +kernel, by decide⟩
theorem mdX12_arrive : MD yX12_arrive cX12_arrive 4 (some .int) 2 := ⟨w1801, w137, by decide +kernel, by decide⟩
theorem mdX12_chance : MD yX12_chance cX12_chance 5 (some .int) 1 := ⟨w1835, w137, by decide +kernel, by decide⟩
theorem mdX12_corner : MD yX12_corner cX12_corner 3 (some .int) 2 := ⟨w1732, w137, by decide +kernel, by decide⟩
theorem mdX12_doing : MD yX12_doing cX12_doing 3 (some .int) 2 := ⟨w1740, w137, by decide +kernel, by decide⟩
theorem mdX12_early : MD yX12_early cX12_early 6 (some .int) 1 := ⟨w1807, w137, by decide +kernel, by decide⟩
theorem mdX12_end : MD yX12_end cX12_end 2 (some .boolean) 1 := ⟨w1464, w137, by decide +kernel, by decide⟩
theorem mdX12_evening : MD yX12_evening cX12_evening 10 (some .int) 2 := ⟨w1788, w137, by decide +kernel, by decide⟩
theorem mdX12_fault : MD yX12_fault cX12_fault 2 (some .int) 1 := ⟨w1692, w137, by decide +kernel, by decide⟩
theorem mdX12_feed : MD yX12_feed cX12_feed 6 (some .int) 5 := ⟨w1452, w137, by decide +kernel, by decide⟩
theorem mdX12_give : MD yX12_give cX12_give 3 (some .int) 2 := ⟨w1847, w137, by decide +kernel, by decide⟩
theorem mdX12_has : MD yX12_has cX12_has 4 (some .int) 1 := ⟨w1712, w137, by decide +kernel, by decide⟩
theorem mdX12_held : MD yX12_held cX12_held 2 (some .int) 1 := ⟨w1815, w137, by decide +kernel, by decide⟩
theorem mdX12_image : MD yX12_image cX12_image 3 (some .int) 0 := ⟨w1863, w137, by decide +kernel, by decide⟩
theorem mdX12_kept : MD yX12_kept cX12_kept 3 (some .int) 2 := ⟨w1859, w137, by decide +kernel, by decide⟩
theorem mdX12_letter : MD yX12_letter cX12_letter 9 (some .int) 3 := ⟨w1719, w137, by decide +kernel, by decide⟩
theorem mdX12_minutes : MD yX12_minutes cX12_minutes 4 (some .int) 1 := ⟨w1827, w137, by decide +kernel, by decide⟩
theorem mdX12_octet : MD yX12_octet cX12_octet 2 (some .int) 1 := ⟨w1871, w137, by decide +kernel, by decide⟩
theorem mdX12_odds : MD yX12_odds cX12_odds 14 (some .long) 3 := ⟨w1792, w137, by decide +kernel, by decide⟩
theorem mdX12_on : MD yX12_on cX12_on 2 (some .boolean) 0 := ⟨w1875, w137, by decide +kernel, by decide⟩
theorem mdX12_plan : MD yX12_plan cX12_plan 10 (some .int) 3 := ⟨w1780, w137, by decide +kernel, by decide⟩
theorem mdX12_see : MD yX12_see cX12_see 4 (some .int) 0 := ⟨w1811, w137, by decide +kernel, by decide⟩
theorem mdX12_seed : MD yX12_seed cX12_seed 2 (some .boolean) 1 := ⟨w1855, w137, by decide +kernel, by decide⟩
theorem mdX12_status : MD yX12_status cX12_status 2 (some .int) 1 := ⟨w1696, w137, by decide +kernel, by decide⟩
theorem mdX12_take : MD yX12_take cX12_take 2 (some .int) 1 := ⟨w1851, w137, by decide +kernel, by decide⟩
theorem mdX12_tells : MD yX12_tells cX12_tells 11 (some .int) 2 := ⟨w1823, w137, by decide +kernel, by decide⟩
theorem mdX12_thing : MD yX12_thing cX12_thing 3 (some .int) 2 := ⟨w1724, w137, by decide +kernel, by decide⟩
theorem mdX12_town : MD yX12_town cX12_town 3 (some .int) 0 := ⟨w1468, w137, by decide +kernel, by decide⟩
theorem mdX12_undo : MD yX12_undo cX12_undo 1 (some .boolean) 0 := ⟨w1700, w137, by decide +kernel, by decide⟩
theorem mdX12_when : MD yX12_when cX12_when 3 (some .int) 1 := ⟨w1772, w137, by decide +kernel, by decide⟩
theorem mvX11_alike : MV yX11_alike := ⟨w984, w985⟩
theorem mvX11_arrive : MV yX11_arrive := ⟨w1066, w1067⟩
theorem mvX11_chance : MV yX11_chance := ⟨w1147, w1148⟩
theorem mvX11_corner : MV yX11_corner := ⟨w941, w942⟩
theorem mvX11_doing : MV yX11_doing := ⟨w955, w956⟩
theorem mvX11_early : MV yX11_early := ⟨w1070, w1071⟩
theorem mvX11_end : MV yX11_end := ⟨w680, w681⟩
theorem mvX11_evening : MV yX11_evening := ⟨w1024, w1025⟩
theorem mvX11_fault : MV yX11_fault := ⟨w905, w906⟩
theorem mvX11_feed : MV yX11_feed := ⟨w664, w665⟩
theorem mvX11_give : MV yX11_give := ⟨w1163, w1164⟩
theorem mvX11_has : MV yX11_has := ⟨w909, w910⟩
theorem mvX11_held : MV yX11_held := ⟨w1095, w1096⟩
theorem mvX11_image : MV yX11_image := ⟨w1195, w1196⟩
theorem mvX11_kept : MV yX11_kept := ⟨w1191, w1192⟩
theorem mvX11_later : MV yX11_later := ⟨w959, w960⟩
theorem mvX11_letter : MV yX11_letter := ⟨w921, w922⟩
theorem mvX11_minutes : MV yX11_minutes := ⟨w1125, w1126⟩
theorem mvX11_octet : MV yX11_octet := ⟨w1210, w1211⟩
theorem mvX11_odds : MV yX11_odds := ⟨w1032, w1033⟩
theorem mvX11_on : MV yX11_on := ⟨w1214, w1215⟩
theorem mvX11_plan : MV yX11_plan := ⟨w988, w989⟩
theorem mvX11_see : MV yX11_see := ⟨w1085, w1086⟩
theorem mvX11_seed : MV yX11_seed := ⟨w1187, w1188⟩
theorem mvX11_status : MV yX11_status := ⟨w1233, w1234⟩
theorem mvX11_take : MV yX11_take := ⟨w1171, w1172⟩
theorem mvX11_tells : MV yX11_tells := ⟨w1115, w1116⟩
theorem mvX11_thing : MV yX11_thing := ⟨w937, w938⟩
theorem mvX11_town : MV yX11_town := ⟨w684, w685⟩
theorem mvX11_undo : MV yX11_undo := ⟨w1175, w1176⟩
theorem mvX11_way : MV yX11_way := ⟨w1051, w1052⟩
theorem mvX11_when : MV yX11_when := ⟨w980, w981⟩
theorem mvX12_alike : MV yX12_alike := ⟨w1774, w1775⟩
theorem mvX12_arrive : MV yX12_arrive := ⟨w1799, w1800⟩
theorem mvX12_chance : MV yX12_chance := ⟨w1833, w1834⟩
theorem mvX12_corner : MV yX12_corner := ⟨w1730, w1731⟩
theorem mvX12_doing : MV yX12_doing := ⟨w1738, w1739⟩
theorem mvX12_early : MV yX12_early := ⟨w1805, w1806⟩
theorem mvX12_end : MV yX12_end := ⟨w1462, w1463⟩
theorem mvX12_evening : MV yX12_evening := ⟨w1786, w1787⟩
theorem mvX12_fault : MV yX12_fault := ⟨w1690, w1691⟩
theorem mvX12_feed : MV yX12_feed := ⟨w1450, w1451⟩
theorem mvX12_give : MV yX12_give := ⟨w1845, w1846⟩
theorem mvX12_has : MV yX12_has := ⟨w1710, w1711⟩
theorem mvX12_held : MV yX12_held := ⟨w1813, w1814⟩
theorem mvX12_image : MV yX12_image := ⟨w1861, w1862⟩
theorem mvX12_kept : MV yX12_kept := ⟨w1857, w1858⟩
theorem mvX12_letter : MV yX12_letter := ⟨w1717, w1718⟩
theorem mvX12_minutes : MV yX12_minutes := ⟨w1825, w1826⟩
theorem mvX12_octet : MV yX12_octet := ⟨w1869, w1870⟩
theorem mvX12_odds : MV yX12_odds := ⟨w1790, w1791⟩
theorem mvX12_on : MV yX12_on := ⟨w1873, w1874⟩
theorem mvX12_plan : MV yX12_plan := ⟨w1778, w1779⟩
theorem mvX12_see : MV yX12_see := ⟨w1809, w1810⟩
theorem mvX12_seed : MV yX12_seed := ⟨w1853, w1854⟩
theorem mvX12_status : MV yX12_status := ⟨w1694, w1695⟩
theorem mvX12_take : MV yX12_take := ⟨w1849, w1850⟩
theorem mvX12_tells : MV yX12_tells := ⟨w1821, w1822⟩
theorem mvX12_thing : MV yX12_thing := ⟨w1722, w1723⟩
theorem mvX12_town : MV yX12_town := ⟨w1466, w1467⟩
theorem mvX12_undo : MV yX12_undo := ⟨w1698, w1699⟩
theorem mvX12_when : MV yX12_when := ⟨w1770, w1771⟩
/-! THE LAW: both worlds side by side -/
def OKl (p : Program) (s : State) (m : MethodId) (meth : Method) (c : Code) (b L : Nat) (xs : Nat → Int32) (D : va_G) (cy : Nat → ClassId) (ax ay : Nat → Nat) : Prop :=
  p.tables.exec = Jvm.exec ∧ c.code = code ∧ c.maxLocals = 4 ∧ s.vm.findClass R_law = some m.cls ∧ (∀ w ∈ lw_g, w.before #[Value.ref b] s = true) ∧ va_K D vwCl (tyl cy) s ∧ Inj LX ax ∧ Inj LY ay ∧ (∀ i j, i < 90 → j < 44 → ax i ≠ ay j) ∧ (∀ i, i < 90 → s.heap.size ≤ ax i) ∧ (∀ j, j < 44 → s.heap.size ≤ ay j) ∧ va_X b L xs s s.heap ∧ b < s.heap.size ∧ meth.locks = false ∧ meth.sig.returnType = ret
def LB (p : Program) (l : Launch) (e : Env) (s : State) (m : MethodId) (below : List Frame) (meth : Method) (c : Code) (b : Nat) (D : va_G) (cy : Nat → ClassId) (ax ay : Nat → Nat) (cells slots pc : Nat) (lv : List (Nat × Value)) (st : List Value) (MX MY : Mem) : Prop :=
  ∀ (H : Heap) (locs : List Loc) (ls : Array Slot), WD LX D cy ax MX H → WD LY D cy ay MY H → va_S (fun q => s.heap.size ≤ q) s.heap H locs → lv_has ls 4 lv → W p l e room_1 s m #[Value.ref b] below meth c H locs cells slots (lw_Z below #[Value.ref b] s) (F0 m pc ls st)
section LROWS
variable {p : Program} {l : Launch} {e : Env} {s : State} {m : MethodId} {below : List Frame} {meth : Method} {c : Code} {b L : Nat} {xs : Nat → Int32} {D : va_G} {cy : Nat → ClassId} {ax ay : Nat → Nat} {cells slots pc : Nat} {lv : List (Nat × Value)} {st : List Value} {MX MY : Mem}
theorem l_iload_n (hO : OKl p s m meth c b L xs D cy ax ay) {k : Fin 4} {i : Nat} {x : Int32} (hdg : decode code pc = .ok (.iload_n k, 1)) (j : Nat) (hj : lv[j]? = some (i, .int x)) (hi : (k : Nat) = i) (K : LB p l e s m below meth c b D cy ax ay cells slots (pc + 1) lv (.int x :: st) MX MY) : LB p l e s m below meth c b D cy ax ay cells slots pc lv st MX MY := fun H locs ls hX hY hS hl => lv_iload_n hO.1 hO.2.1 hdg hi (lv_at hl j hj) (K H locs ls hX hY hS hl)
theorem l_aload_n (hO : OKl p s m meth c b L xs D cy ax ay) {k : Fin 4} {i : Nat} {x : Nat} (hdg : decode code pc = .ok (.aload_n k, 1)) (j : Nat) (hj : lv[j]? = some (i, .ref x)) (hi : (k : Nat) = i) (K : LB p l e s m below meth c b D cy ax ay cells slots (pc + 1) lv (.ref x :: st) MX MY) : LB p l e s m below meth c b D cy ax ay cells slots pc lv st MX MY := fun H locs ls hX hY hS hl => lv_aload_n hO.1 hO.2.1 hdg hi (lv_at hl j hj) (K H locs ls hX hY hS hl)
theorem l_iconst (hO : OKl p s m meth c b L xs D cy ax ay) {n : Int} {v : Int32} (hdg : decode code pc = .ok (.iconst n, 1)) (hv : Int32.ofInt n = v) (K : LB p l e s m below meth c b D cy ax ay cells slots (pc + 1) lv (.int v :: st) MX MY) : LB p l e s m below meth c b D cy ax ay cells slots pc lv st MX MY := fun H locs ls hX hY hS hl => lv_iconst hO.1 hO.2.1 hdg hv (K H locs ls hX hY hS hl)
theorem l_bipush (hO : OKl p s m meth c b L xs D cy ax ay) {n : Int} {v : Int32} (hdg : decode code pc = .ok (.bipush n, 2)) (hv : (Int8.ofInt n).toInt32 = v) (K : LB p l e s m below meth c b D cy ax ay cells slots (pc + 2) lv (.int v :: st) MX MY) : LB p l e s m below meth c b D cy ax ay cells slots pc lv st MX MY := fun H locs ls hX hY hS hl => lv_bipush hO.1 hO.2.1 hdg hv (K H locs ls hX hY hS hl)
theorem l_iadd (hO : OKl p s m meth c b L xs D cy ax ay) {x y v : Int32} (hdg : decode code pc = .ok (.iadd, 1)) (hv : x + y = v) (K : LB p l e s m below meth c b D cy ax ay cells slots (pc + 1) lv (.int v :: st) MX MY) : LB p l e s m below meth c b D cy ax ay cells slots pc lv (.int y :: .int x :: st) MX MY := fun H locs ls hX hY hS hl => lv_iadd hO.1 hO.2.1 hdg (by rw [hv]; exact K H locs ls hX hY hS hl)
theorem l_isub (hO : OKl p s m meth c b L xs D cy ax ay) {x y v : Int32} (hdg : decode code pc = .ok (.isub, 1)) (hv : x - y = v) (K : LB p l e s m below meth c b D cy ax ay cells slots (pc + 1) lv (.int v :: st) MX MY) : LB p l e s m below meth c b D cy ax ay cells slots pc lv (.int y :: .int x :: st) MX MY := fun H locs ls hX hY hS hl => lv_isub hO.1 hO.2.1 hdg (by rw [hv]; exact K H locs ls hX hY hS hl)
theorem l_iand (hO : OKl p s m meth c b L xs D cy ax ay) {x y v : Int32} (hdg : decode code pc = .ok (.iand, 1)) (hv : x &&& y = v) (K : LB p l e s m below meth c b D cy ax ay cells slots (pc + 1) lv (.int v :: st) MX MY) : LB p l e s m below meth c b D cy ax ay cells slots pc lv (.int y :: .int x :: st) MX MY := fun H locs ls hX hY hS hl => lv_iand hO.1 hO.2.1 hdg (by rw [hv]; exact K H locs ls hX hY hS hl)
theorem l_sld (hO : OKl p s m meth c b L xs D cy ax ay) {n : Nat} {v : Int32} (hn : n < L) (hL : L < 2 ^ 31) (hv : xs n = v) (hdg : decode code pc = .ok (.iaload, 1)) (K : LB p l e s m below meth c b D cy ax ay cells slots (pc + 1) lv (.int v :: st) MX MY) : LB p l e s m below meth c b D cy ax ay cells slots pc lv (.int (nI n) :: .ref b :: st) MX MY := fun H locs ls hX hY hS hl => by
  refine va_sld hO.1 hO.2.1 hO.2.2.2.2.2.2.2.2.2.2.2.1 hO.2.2.2.2.2.2.2.2.2.2.2.2.1 (Nat.not_le.mpr hO.2.2.2.2.2.2.2.2.2.2.2.2.1) hS (vp_in_nI hn hL) hdg ?_
  rw [nI_clamp (by omega), hv]
  exact K H locs ls hX hY hS hl
theorem l_slen (hO : OKl p s m meth c b L xs D cy ax ay) (hdg : decode code pc = .ok (.arraylength, 1)) (K : LB p l e s m below meth c b D cy ax ay cells slots (pc + 1) lv (.int (nI L) :: st) MX MY) : LB p l e s m below meth c b D cy ax ay cells slots pc lv (.ref b :: st) MX MY := fun H locs ls hX hY hS hl => va_slen hO.1 hO.2.1 hO.2.2.2.2.2.2.2.2.2.2.2.1 hO.2.2.2.2.2.2.2.2.2.2.2.2.1 (Nat.not_le.mpr hO.2.2.2.2.2.2.2.2.2.2.2.2.1) hS hdg (K H locs ls hX hY hS hl)
theorem l_goto (hO : OKl p s m meth c b L xs D cy ax ay) {off : Int} {tgt : Nat} (hdg : decode code pc = .ok (.goto off, 3)) (ht : (pc : Int) + off = (tgt : Int)) (K : LB p l e s m below meth c b D cy ax ay cells slots tgt lv st MX MY) : LB p l e s m below meth c b D cy ax ay cells slots pc lv st MX MY := fun H locs ls hX hY hS hl => lv_goto hO.1 hO.2.1 hdg ht (K H locs ls hX hY hS hl)
theorem l_icmpgt (hO : OKl p s m meth c b L xs D cy ax ay) {x y : Int32} {off : Int} {tgt : Nat} (hdg : decode code pc = .ok (.if_icmp .gt off, 3)) (ht : (pc : Int) + off = (tgt : Int)) (kt : y < x → LB p l e s m below meth c b D cy ax ay cells slots tgt lv st MX MY) (kf : ¬ y < x → LB p l e s m below meth c b D cy ax ay cells slots (pc + 3) lv st MX MY) : LB p l e s m below meth c b D cy ax ay cells slots pc lv (.int y :: .int x :: st) MX MY := fun H locs ls hX hY hS hl => lv_icmp_gt hO.1 hO.2.1 hdg ht (fun h => kt h H locs ls hX hY hS hl) (fun h => kf h H locs ls hX hY hS hl)
theorem l_icmpeq (hO : OKl p s m meth c b L xs D cy ax ay) {x y : Int32} {off : Int} {tgt : Nat} (hdg : decode code pc = .ok (.if_icmp .eq off, 3)) (ht : (pc : Int) + off = (tgt : Int)) (h : x = y) (K : LB p l e s m below meth c b D cy ax ay cells slots tgt lv st MX MY) : LB p l e s m below meth c b D cy ax ay cells slots pc lv (.int y :: .int x :: st) MX MY := fun H locs ls hX hY hS hl => lv_icmp_eq hO.1 hO.2.1 hdg ht (fun _ => K H locs ls hX hY hS hl) (fun h9 => absurd h h9)
theorem l_lcmpeq (hO : OKl p s m meth c b L xs D cy ax ay) {x y : Int64} {off : Int} {tgt : Nat} (hdg : decode code pc = .ok (.lcmp, 1)) (hd2 : decode code (pc + 1) = .ok (.ifCond .eq off, 3)) (ht : ((pc + 1 : Nat) : Int) + off = (tgt : Int)) (h : x = y) (K : LB p l e s m below meth c b D cy ax ay cells slots tgt lv st MX MY) : LB p l e s m below meth c b D cy ax ay cells slots pc lv (.long y :: .long x :: st) MX MY := fun H locs ls hX hY hS hl => W.lcmp hO.1 hO.2.1 hdg (lv_if_eq hO.1 hO.2.1 hd2 ht (fun _ => K H locs ls hX hY hS hl) (fun h9 => absurd (by subst h; unfold lg_cmp; rw [if_neg (by exact Int64.lt_irrefl), if_pos rfl]) h9))
theorem l_pop (hO : OKl p s m meth c b L xs D cy ax ay) {x : Int32} (hdg : decode code pc = .ok (.pop, 1)) (K : LB p l e s m below meth c b D cy ax ay cells slots (pc + 1) lv st MX MY) : LB p l e s m below meth c b D cy ax ay cells slots pc lv (.int x :: st) MX MY := fun H locs ls hX hY hS hl => lv_pop hO.1 hO.2.1 hdg rfl (K H locs ls hX hY hS hl)
theorem l_pop2 (hO : OKl p s m meth c b L xs D cy ax ay) {x : Int64} (hdg : decode code pc = .ok (.pop2, 1)) (K : LB p l e s m below meth c b D cy ax ay cells slots (pc + 1) lv st MX MY) : LB p l e s m below meth c b D cy ax ay cells slots pc lv (.long x :: st) MX MY := fun H locs ls hX hY hS hl => lv_pop2_2 hO.1 hO.2.1 hdg rfl (K H locs ls hX hY hS hl)
theorem l_iinc (hO : OKl p s m meth c b L xs D cy ax ay) {i : Nat} {n : Int} {x v : Int32} {lv' : List (Nat × Value)} (hdg : decode code pc = .ok (.iinc i n, 3)) (j : Nat) (hj : lv[j]? = some (i, .int x)) (hv : x + Int32.ofInt n = v) (hn : i < 4) (hlv : (i, Value.int v) :: lv.filter (fun q => !(q.1 == i) && !(q.1 + 1 == i && q.2.category == 2)) = lv') (K : LB p l e s m below meth c b D cy ax ay cells slots (pc + 3) lv' st MX MY) : LB p l e s m below meth c b D cy ax ay cells slots pc lv st MX MY := fun H locs ls hX hY hS hl => lv_iinc hO.1 hO.2.1 hdg hl hj hv hn hlv (fun ls' hl' => K H locs ls' hX hY hS hl')
theorem l_tab (hO : OKl p s m meth c b L xs D cy ax ay) {dflt lo hi : Int} {offs : Array Int} {len : Nat} {x : Int32} {off : Int} {tgt : Nat} (hdg : decode code pc = .ok (.tableswitch dflt lo hi offs, len)) (h1 : ¬ x.toInt < lo) (h2 : ¬ hi < x.toInt) (ho : offs[(x.toInt - lo).toNat]? = some off) (ht : (pc : Int) + off = (tgt : Int)) (K : LB p l e s m below meth c b D cy ax ay cells slots tgt lv st MX MY) : LB p l e s m below meth c b D cy ax ay cells slots pc lv (.int x :: st) MX MY := fun H locs ls hX hY hS hl => lv_tableIn hO.1 hO.2.1 hdg h1 h2 ho ht (K H locs ls hX hY hS hl)
theorem l_sub {lv' : List (Nat × Value)} (js : List Nat) (h : js.filterMap (fun j => lv[j]?) = lv') (K : LB p l e s m below meth c b D cy ax ay cells slots pc lv' st MX MY) : LB p l e s m below meth c b D cy ax ay cells slots pc lv st MX MY := fun H locs ls hX hY hS hl => K H locs ls hX hY hS (lv_sub hl js h)
theorem l_ret (hO : OKl p s m meth c b L xs D cy ax ay) (hc : cells ≤ 600000) (hs : slots ≤ 7302250) (hdg : decode code pc = .ok (.ireturn, 1)) : LB p l e s m below meth c b D cy ax ay cells slots pc lv [.int 1] MX MY := fun H locs ls hX hY hS hl => va_forget (fun q hq => hS.2.2 q hq) (W.widen (k := 600000) (n := 7302250) hc hs (lw_ret hO.1 hO.2.1 hO.2.2.2.2.2.2.2.2.2.2.2.2.2.2 hO.2.2.2.2.2.2.2.2.2.2.2.2.2.1 hdg))
theorem l_callXI (hO : OKl p s m meth c b L xs D cy ax ay) {y : MethodName} {bytes : ByteArray} {maxL n d2 idx : Nat} {rt2 : Option FieldType} {As : List Value} {o1 : Option (Int32 × Mem)} {z : Int32 × Mem} (hz : o1 = some z) (hM : MD y bytes maxL rt2 n) (hV : MV y) (hcC : y.cls = RX11) (hlk : Cond.methodLink R_law idx y ∈ lw_g) (hC : CT l LX D cy ax y bytes maxL rt2 d2 (QI LX D cy ax) (.ref (ax 0) :: As) MX o1) (hdd : d2 ≤ 1000) (hn : As.length = n) {stk : List Value} (hst : stk = As.reverse ++ .ref (ax 0) :: st) (hroom : (st.map fun v => v.category).sum ≤ 8) (hcells : cells ≤ 600000) (hslots : slots ≤ 7302250) (hdg : decode code pc = .ok (.invokevirtual idx, 3)) (K : LB p l e s m below meth c b D cy ax ay cells slots (pc + 3) lv (.int z.1 :: st) z.2 MY) : LB p l e s m below meth c b D cy ax ay cells slots pc lv stk MX MY := fun H locs ls hX hY hS hl => by
  subst hst
  have hxA : ∀ q, xA LX ax q → s.heap.size ≤ q := fun q h => by
    obtain ⟨k9, hk9, rfl⟩ := h
    exact hO.2.2.2.2.2.2.2.2.2.1 k9 hk9
  refine va_calli (va_runV (C := y.cls) (As := As) (rest := st) ⟨hO.1, hO.2.1, hO.2.2.1, hO.2.2.2.1, hO.2.2.2.2.1⟩ (hC z hz) ⟨callB_of n hO.2.2.2.2.1 (gd_all hM) rfl rfl rfl (hO.2.2.2.2.1 _ hM.2.1) (hO.2.2.2.2.1 _ hlk) hM.2.2.1 ⟨by show d2 + 1 ≤ 2048; omega, by have := hM.2.2.2; show 8 + (maxL + 11) + 64 * d2 ≤ 84000; omega⟩, hO.2.2.2.2.1 _ hV.1, hO.2.2.2.2.1 _ hV.2⟩ ⟨WT_blind, by rw [hcC]; exact va_recv hO.2.2.2.2.2.1 hX.1 (ci := 11) rfl (q0 := 0) (by rw [wl_get (by decide), cE_obj (show isK LX 0 11 from ⟨rfl, by decide⟩) (by decide)]), fun U hU hw => ⟨rfl, ⟨by rw [hU]; exact hX.1, hX.2⟩, va_K.moved hw.alike hO.2.2.2.2.2.1⟩⟩ rfl hn hl.1 rfl (lv_room hroom) hdg ⟨hcells, hslots⟩) hS (fun q _ h => hxA q h) hxA (fun v u t H1 locs1 ht hvm hw hB hzz hk hS1 => ?_)
  have hw2 : z = (v, u) := hw.symm
  subst hw2
  exact K H1 locs1 ls ⟨by have := hB.1.1; rw [ht] at this; exact this, hB.1.2⟩ ⟨hY.1.kept (fun k9 x9 hx9 => hk x9.1 ((hY.1 k9 x9 hx9).lt) (fun h => by obtain ⟨i9, hi9, e9⟩ := h; obtain ⟨hk9, rfl⟩ := wl_at hx9; exact hO.2.2.2.2.2.2.2.2.1 i9 k9 hi9 hk9 e9.symm)), hY.2⟩ hS1 hl
theorem l_callXL (hO : OKl p s m meth c b L xs D cy ax ay) {y : MethodName} {bytes : ByteArray} {maxL n d2 idx : Nat} {rt2 : Option FieldType} {As : List Value} {o1 : Option (Int64 × Mem)} {z : Int64 × Mem} (hz : o1 = some z) (hM : MD y bytes maxL rt2 n) (hV : MV y) (hcC : y.cls = RX11) (hlk : Cond.methodLink R_law idx y ∈ lw_g) (hC : CT l LX D cy ax y bytes maxL rt2 d2 (QL LX D cy ax) (.ref (ax 0) :: As) MX o1) (hdd : d2 ≤ 1000) (hn : As.length = n) {stk : List Value} (hst : stk = As.reverse ++ .ref (ax 0) :: st) (hroom : (st.map fun v => v.category).sum ≤ 8) (hcells : cells ≤ 600000) (hslots : slots ≤ 7302250) (hdg : decode code pc = .ok (.invokevirtual idx, 3)) (K : LB p l e s m below meth c b D cy ax ay cells slots (pc + 3) lv (.long z.1 :: st) z.2 MY) : LB p l e s m below meth c b D cy ax ay cells slots pc lv stk MX MY := fun H locs ls hX hY hS hl => by
  subst hst
  have hxA : ∀ q, xA LX ax q → s.heap.size ≤ q := fun q h => by
    obtain ⟨k9, hk9, rfl⟩ := h
    exact hO.2.2.2.2.2.2.2.2.2.1 k9 hk9
  refine va_calll (va_runV (C := y.cls) (As := As) (rest := st) ⟨hO.1, hO.2.1, hO.2.2.1, hO.2.2.2.1, hO.2.2.2.2.1⟩ (hC z hz) ⟨callB_of n hO.2.2.2.2.1 (gd_all hM) rfl rfl rfl (hO.2.2.2.2.1 _ hM.2.1) (hO.2.2.2.2.1 _ hlk) hM.2.2.1 ⟨by show d2 + 1 ≤ 2048; omega, by have := hM.2.2.2; show 8 + (maxL + 11) + 64 * d2 ≤ 84000; omega⟩, hO.2.2.2.2.1 _ hV.1, hO.2.2.2.2.1 _ hV.2⟩ ⟨WT_blind, by rw [hcC]; exact va_recv hO.2.2.2.2.2.1 hX.1 (ci := 11) rfl (q0 := 0) (by rw [wl_get (by decide), cE_obj (show isK LX 0 11 from ⟨rfl, by decide⟩) (by decide)]), fun U hU hw => ⟨rfl, ⟨by rw [hU]; exact hX.1, hX.2⟩, va_K.moved hw.alike hO.2.2.2.2.2.1⟩⟩ rfl hn hl.1 rfl (lv_room hroom) hdg ⟨hcells, hslots⟩) hS (fun q _ h => hxA q h) hxA (fun v u t H1 locs1 ht hvm hw hB hzz hk hS1 => ?_)
  have hw2 : z = (v, u) := hw.symm
  subst hw2
  exact K H1 locs1 ls ⟨by have := hB.1.1; rw [ht] at this; exact this, hB.1.2⟩ ⟨hY.1.kept (fun k9 x9 hx9 => hk x9.1 ((hY.1 k9 x9 hx9).lt) (fun h => by obtain ⟨i9, hi9, e9⟩ := h; obtain ⟨hk9, rfl⟩ := wl_at hx9; exact hO.2.2.2.2.2.2.2.2.1 i9 k9 hi9 hk9 e9.symm)), hY.2⟩ hS1 hl
theorem l_callYI (hO : OKl p s m meth c b L xs D cy ax ay) {y : MethodName} {bytes : ByteArray} {maxL n d2 idx : Nat} {rt2 : Option FieldType} {As : List Value} {o1 : Option (Int32 × Mem)} {z : Int32 × Mem} (hz : o1 = some z) (hM : MD y bytes maxL rt2 n) (hV : MV y) (hcC : y.cls = RX12) (hlk : Cond.methodLink R_law idx y ∈ lw_g) (hC : CT l LY D cy ay y bytes maxL rt2 d2 (QI LY D cy ay) (.ref (ay 0) :: As) MY o1) (hdd : d2 ≤ 1000) (hn : As.length = n) {stk : List Value} (hst : stk = As.reverse ++ .ref (ay 0) :: st) (hroom : (st.map fun v => v.category).sum ≤ 8) (hcells : cells ≤ 600000) (hslots : slots ≤ 7302250) (hdg : decode code pc = .ok (.invokevirtual idx, 3)) (K : LB p l e s m below meth c b D cy ax ay cells slots (pc + 3) lv (.int z.1 :: st) MX z.2) : LB p l e s m below meth c b D cy ax ay cells slots pc lv stk MX MY := fun H locs ls hX hY hS hl => by
  subst hst
  have hxA : ∀ q, xA LY ay q → s.heap.size ≤ q := fun q h => by
    obtain ⟨k9, hk9, rfl⟩ := h
    exact hO.2.2.2.2.2.2.2.2.2.2.1 k9 hk9
  refine va_calli (va_runV (C := y.cls) (As := As) (rest := st) ⟨hO.1, hO.2.1, hO.2.2.1, hO.2.2.2.1, hO.2.2.2.2.1⟩ (hC z hz) ⟨callB_of n hO.2.2.2.2.1 (gd_all hM) rfl rfl rfl (hO.2.2.2.2.1 _ hM.2.1) (hO.2.2.2.2.1 _ hlk) hM.2.2.1 ⟨by show d2 + 1 ≤ 2048; omega, by have := hM.2.2.2; show 8 + (maxL + 11) + 64 * d2 ≤ 84000; omega⟩, hO.2.2.2.2.1 _ hV.1, hO.2.2.2.2.1 _ hV.2⟩ ⟨WT_blind, by rw [hcC]; exact va_recv hO.2.2.2.2.2.1 hY.1 (ci := 12) rfl (q0 := 0) (by rw [wl_get (by decide), cE_obj (show isK LY 0 12 from ⟨rfl, by decide⟩) (by decide)]), fun U hU hw => ⟨rfl, ⟨by rw [hU]; exact hY.1, hY.2⟩, va_K.moved hw.alike hO.2.2.2.2.2.1⟩⟩ rfl hn hl.1 rfl (lv_room hroom) hdg ⟨hcells, hslots⟩) hS (fun q _ h => hxA q h) hxA (fun v u t H1 locs1 ht hvm hw hB hzz hk hS1 => ?_)
  have hw2 : z = (v, u) := hw.symm
  subst hw2
  exact K H1 locs1 ls ⟨hX.1.kept (fun k9 x9 hx9 => hk x9.1 ((hX.1 k9 x9 hx9).lt) (fun h => by obtain ⟨i9, hi9, e9⟩ := h; obtain ⟨hk9, rfl⟩ := wl_at hx9; exact hO.2.2.2.2.2.2.2.2.1 k9 i9 hk9 hi9 e9)), hX.2⟩ ⟨by have := hB.1.1; rw [ht] at this; exact this, hB.1.2⟩ hS1 hl
theorem l_callYL (hO : OKl p s m meth c b L xs D cy ax ay) {y : MethodName} {bytes : ByteArray} {maxL n d2 idx : Nat} {rt2 : Option FieldType} {As : List Value} {o1 : Option (Int64 × Mem)} {z : Int64 × Mem} (hz : o1 = some z) (hM : MD y bytes maxL rt2 n) (hV : MV y) (hcC : y.cls = RX12) (hlk : Cond.methodLink R_law idx y ∈ lw_g) (hC : CT l LY D cy ay y bytes maxL rt2 d2 (QL LY D cy ay) (.ref (ay 0) :: As) MY o1) (hdd : d2 ≤ 1000) (hn : As.length = n) {stk : List Value} (hst : stk = As.reverse ++ .ref (ay 0) :: st) (hroom : (st.map fun v => v.category).sum ≤ 8) (hcells : cells ≤ 600000) (hslots : slots ≤ 7302250) (hdg : decode code pc = .ok (.invokevirtual idx, 3)) (K : LB p l e s m below meth c b D cy ax ay cells slots (pc + 3) lv (.long z.1 :: st) MX z.2) : LB p l e s m below meth c b D cy ax ay cells slots pc lv stk MX MY := fun H locs ls hX hY hS hl => by
  subst hst
  have hxA : ∀ q, xA LY ay q → s.heap.size ≤ q := fun q h => by
    obtain ⟨k9, hk9, rfl⟩ := h
    exact hO.2.2.2.2.2.2.2.2.2.2.1 k9 hk9
  refine va_calll (va_runV (C := y.cls) (As := As) (rest := st) ⟨hO.1, hO.2.1, hO.2.2.1, hO.2.2.2.1, hO.2.2.2.2.1⟩ (hC z hz) ⟨callB_of n hO.2.2.2.2.1 (gd_all hM) rfl rfl rfl (hO.2.2.2.2.1 _ hM.2.1) (hO.2.2.2.2.1 _ hlk) hM.2.2.1 ⟨by show d2 + 1 ≤ 2048; omega, by have := hM.2.2.2; show 8 + (maxL + 11) + 64 * d2 ≤ 84000; omega⟩, hO.2.2.2.2.1 _ hV.1, hO.2.2.2.2.1 _ hV.2⟩ ⟨WT_blind, by rw [hcC]; exact va_recv hO.2.2.2.2.2.1 hY.1 (ci := 12) rfl (q0 := 0) (by rw [wl_get (by decide), cE_obj (show isK LY 0 12 from ⟨rfl, by decide⟩) (by decide)]), fun U hU hw => ⟨rfl, ⟨by rw [hU]; exact hY.1, hY.2⟩, va_K.moved hw.alike hO.2.2.2.2.2.1⟩⟩ rfl hn hl.1 rfl (lv_room hroom) hdg ⟨hcells, hslots⟩) hS (fun q _ h => hxA q h) hxA (fun v u t H1 locs1 ht hvm hw hB hzz hk hS1 => ?_)
  have hw2 : z = (v, u) := hw.symm
  subst hw2
  exact K H1 locs1 ls ⟨hX.1.kept (fun k9 x9 hx9 => hk x9.1 ((hX.1 k9 x9 hx9).lt) (fun h => by obtain ⟨i9, hi9, e9⟩ := h; obtain ⟨hk9, rfl⟩ := wl_at hx9; exact hO.2.2.2.2.2.2.2.2.1 k9 i9 hk9 hi9 e9)), hX.2⟩ ⟨by have := hB.1.1; rw [ht] at this; exact this, hB.1.2⟩ hS1 hl
end LROWS
end
section
section
variable {p : Program} {l : Launch} {e : Env} {s : State} {m : MethodId} {below : List Frame} {meth : Method} {c : Code} {b L : Nat} {xs : Nat → Int32} {D : va_G} {cy : Nat → ClassId} {ax ay : Nat → Nat} {cells slots pc : Nat} {lv : List (Nat × Value)} {st : List Value} {MX MY : Mem}
def stp0 (n0 : Nat) (a : Nat → Int32) (MX MY : Mem) : Option (Mem × Mem) := (fX11_feed n0 (a 1) (a 2) (a 3) (a 4) (a 5) MX).bind fun zx => (fX12_feed n0 (a 1) (a 2) (a 3) (a 4) (a 5) MY).bind fun zy => some (zx.2, zy.2)
theorem cas0 (n0 : Nat) {j : Nat} (hO : OKl p s m meth c b L xs D cy ax ay) (hj : j + 6 ≤ L) (hL : L ≤ 3072) (hcs : cells ≤ 600000) (hsl : slots ≤ 7302250) {Z : Mem × Mem} (h : stp0 n0 (fun t => xs (j + t)) MX MY = some Z) (K : LB p l e s m below meth c b D cy ax ay cells slots 1072 [(0, .ref b), (1, .ref (ax 0)), (2, .ref (ay 0)), (3, .int (nI j))] [] Z.1 Z.2) : LB p l e s m below meth c b D cy ax ay cells slots 176 [(0, .ref b), (1, .ref (ax 0)), (2, .ref (ay 0)), (3, .int (nI j))] [] MX MY := by
  obtain ⟨zx, hX, h⟩ := Option.bind_eq_some_iff.mp h
  obtain ⟨zy, hY, h⟩ := Option.bind_eq_some_iff.mp h
  cases h
  refine l_aload_n hO dL_law_176 1 rfl rfl ?_
  refine l_aload_n hO dL_law_177 0 rfl rfl ?_
  refine l_iload_n hO dL_law_178 3 rfl rfl ?_
  refine l_iconst hO dL_law_179 ic_i_1 ?_
  refine l_iadd hO dL_law_180 (v := nI (j + 1)) (nI_add j 1) ?_
  refine l_sld hO (n := j + 1) (by omega) (by omega) rfl dL_law_181 ?_
  refine l_aload_n hO dL_law_182 0 rfl rfl ?_
  refine l_iload_n hO dL_law_183 3 rfl rfl ?_
  refine l_iconst hO dL_law_184 ic_i_2 ?_
  refine l_iadd hO dL_law_185 (v := nI (j + 2)) (nI_add j 2) ?_
  refine l_sld hO (n := j + 2) (by omega) (by omega) rfl dL_law_186 ?_
  refine l_aload_n hO dL_law_187 0 rfl rfl ?_
  refine l_iload_n hO dL_law_188 3 rfl rfl ?_
  refine l_iconst hO dL_law_189 ic_i_3 ?_
  refine l_iadd hO dL_law_190 (v := nI (j + 3)) (nI_add j 3) ?_
  refine l_sld hO (n := j + 3) (by omega) (by omega) rfl dL_law_191 ?_
  refine l_aload_n hO dL_law_192 0 rfl rfl ?_
  refine l_iload_n hO dL_law_193 3 rfl rfl ?_
  refine l_iconst hO dL_law_194 ic_i_4 ?_
  refine l_iadd hO dL_law_195 (v := nI (j + 4)) (nI_add j 4) ?_
  refine l_sld hO (n := j + 4) (by omega) (by omega) rfl dL_law_196 ?_
  refine l_aload_n hO dL_law_197 0 rfl rfl ?_
  refine l_iload_n hO dL_law_198 3 rfl rfl ?_
  refine l_iconst hO dL_law_199 ic_i_5 ?_
  refine l_iadd hO dL_law_200 (v := nI (j + 5)) (nI_add j 5) ?_
  refine l_sld hO (n := j + 5) (by omega) (by omega) rfl dL_law_201 ?_
  refine l_callXI hO hX mdX11_feed mvX11_feed rfl w663 (As := [.int _, .int _, .int _, .int _, .int _]) (st := []) (ctX11_feed n0 hO.2.2.2.2.2.2.1 _ _ _ _ _ _) (Nat.le_of_ble_eq_true rfl) rfl rfl (Nat.le_of_ble_eq_true rfl) hcs hsl dL_law_202 ?_
  refine l_pop hO dL_law_205 ?_
  refine l_aload_n hO dL_law_206 2 rfl rfl ?_
  refine l_aload_n hO dL_law_207 0 rfl rfl ?_
  refine l_iload_n hO dL_law_208 3 rfl rfl ?_
  refine l_iconst hO dL_law_209 ic_i_1 ?_
  refine l_iadd hO dL_law_210 (v := nI (j + 1)) (nI_add j 1) ?_
  refine l_sld hO (n := j + 1) (by omega) (by omega) rfl dL_law_211 ?_
  refine l_aload_n hO dL_law_212 0 rfl rfl ?_
  refine l_iload_n hO dL_law_213 3 rfl rfl ?_
  refine l_iconst hO dL_law_214 ic_i_2 ?_
  refine l_iadd hO dL_law_215 (v := nI (j + 2)) (nI_add j 2) ?_
  refine l_sld hO (n := j + 2) (by omega) (by omega) rfl dL_law_216 ?_
  refine l_aload_n hO dL_law_217 0 rfl rfl ?_
  refine l_iload_n hO dL_law_218 3 rfl rfl ?_
  refine l_iconst hO dL_law_219 ic_i_3 ?_
  refine l_iadd hO dL_law_220 (v := nI (j + 3)) (nI_add j 3) ?_
  refine l_sld hO (n := j + 3) (by omega) (by omega) rfl dL_law_221 ?_
  refine l_aload_n hO dL_law_222 0 rfl rfl ?_
  refine l_iload_n hO dL_law_223 3 rfl rfl ?_
  refine l_iconst hO dL_law_224 ic_i_4 ?_
  refine l_iadd hO dL_law_225 (v := nI (j + 4)) (nI_add j 4) ?_
  refine l_sld hO (n := j + 4) (by omega) (by omega) rfl dL_law_226 ?_
  refine l_aload_n hO dL_law_227 0 rfl rfl ?_
  refine l_iload_n hO dL_law_228 3 rfl rfl ?_
  refine l_iconst hO dL_law_229 ic_i_5 ?_
  refine l_iadd hO dL_law_230 (v := nI (j + 5)) (nI_add j 5) ?_
  refine l_sld hO (n := j + 5) (by omega) (by omega) rfl dL_law_231 ?_
  refine l_callYI hO hY mdX12_feed mvX12_feed rfl w1449 (As := [.int _, .int _, .int _, .int _, .int _]) (st := []) (ctX12_feed n0 hO.2.2.2.2.2.2.2.1 _ _ _ _ _ _) (Nat.le_of_ble_eq_true rfl) rfl rfl (Nat.le_of_ble_eq_true rfl) hcs hsl dL_law_232 ?_
  refine l_pop hO dL_law_235 ?_
  refine l_goto (pc := 236) hO dL_law_236 (tgt := 1072) (by decide) ?_
  exact K
def stp1 (n0 : Nat) (a : Nat → Int32) (MX MY : Mem) : Option (Mem × Mem) := (fX11_end n0 (a 1) MX).bind fun zx => (fX12_end n0 (a 1) MY).bind fun zy => some (zx.2, zy.2)
theorem cas1 (n0 : Nat) {j : Nat} (hO : OKl p s m meth c b L xs D cy ax ay) (hj : j + 6 ≤ L) (hL : L ≤ 3072) (hcs : cells ≤ 600000) (hsl : slots ≤ 7302250) {Z : Mem × Mem} (h : stp1 n0 (fun t => xs (j + t)) MX MY = some Z) (K : LB p l e s m below meth c b D cy ax ay cells slots 1072 [(0, .ref b), (1, .ref (ax 0)), (2, .ref (ay 0)), (3, .int (nI j))] [] Z.1 Z.2) : LB p l e s m below meth c b D cy ax ay cells slots 239 [(0, .ref b), (1, .ref (ax 0)), (2, .ref (ay 0)), (3, .int (nI j))] [] MX MY := by
  obtain ⟨zx, hX, h⟩ := Option.bind_eq_some_iff.mp h
  obtain ⟨zy, hY, h⟩ := Option.bind_eq_some_iff.mp h
  cases h
  refine l_aload_n hO dL_law_239 1 rfl rfl ?_
  refine l_aload_n hO dL_law_240 0 rfl rfl ?_
  refine l_iload_n hO dL_law_241 3 rfl rfl ?_
  refine l_iconst hO dL_law_242 ic_i_1 ?_
  refine l_iadd hO dL_law_243 (v := nI (j + 1)) (nI_add j 1) ?_
  refine l_sld hO (n := j + 1) (by omega) (by omega) rfl dL_law_244 ?_
  refine l_callXI hO hX mdX11_end mvX11_end rfl w679 (As := [.int _]) (st := []) (ctX11_end n0 hO.2.2.2.2.2.2.1 _ _) (Nat.le_of_ble_eq_true rfl) rfl rfl (Nat.le_of_ble_eq_true rfl) hcs hsl dL_law_245 ?_
  refine l_pop hO dL_law_248 ?_
  refine l_aload_n hO dL_law_249 2 rfl rfl ?_
  refine l_aload_n hO dL_law_250 0 rfl rfl ?_
  refine l_iload_n hO dL_law_251 3 rfl rfl ?_
  refine l_iconst hO dL_law_252 ic_i_1 ?_
  refine l_iadd hO dL_law_253 (v := nI (j + 1)) (nI_add j 1) ?_
  refine l_sld hO (n := j + 1) (by omega) (by omega) rfl dL_law_254 ?_
  refine l_callYI hO hY mdX12_end mvX12_end rfl w1461 (As := [.int _]) (st := []) (ctX12_end n0 hO.2.2.2.2.2.2.2.1 _ _) (Nat.le_of_ble_eq_true rfl) rfl rfl (Nat.le_of_ble_eq_true rfl) hcs hsl dL_law_255 ?_
  refine l_pop hO dL_law_258 ?_
  refine l_goto (pc := 259) hO dL_law_259 (tgt := 1072) (by decide) ?_
  exact K
def stp2 (n0 : Nat) (a : Nat → Int32) (MX MY : Mem) : Option (Mem × Mem) := (fX11_town n0 MX).bind fun zx => (fX12_town n0 MY).bind fun zy => some (zx.2, zy.2)
theorem cas2 (n0 : Nat) {j : Nat} (hO : OKl p s m meth c b L xs D cy ax ay) (hj : j + 6 ≤ L) (hL : L ≤ 3072) (hcs : cells ≤ 600000) (hsl : slots ≤ 7302250) {Z : Mem × Mem} (h : stp2 n0 (fun t => xs (j + t)) MX MY = some Z) (K : LB p l e s m below meth c b D cy ax ay cells slots 1072 [(0, .ref b), (1, .ref (ax 0)), (2, .ref (ay 0)), (3, .int (nI j))] [] Z.1 Z.2) : LB p l e s m below meth c b D cy ax ay cells slots 262 [(0, .ref b), (1, .ref (ax 0)), (2, .ref (ay 0)), (3, .int (nI j))] [] MX MY := by
  obtain ⟨zx, hX, h⟩ := Option.bind_eq_some_iff.mp h
  obtain ⟨zy, hY, h⟩ := Option.bind_eq_some_iff.mp h
  cases h
  refine l_aload_n hO dL_law_262 1 rfl rfl ?_
  refine l_callXI hO hX mdX11_town mvX11_town rfl w683 (As := []) (st := []) (ctX11_town n0 hO.2.2.2.2.2.2.1 _) (Nat.le_of_ble_eq_true rfl) rfl rfl (Nat.le_of_ble_eq_true rfl) hcs hsl dL_law_263 ?_
  refine l_pop hO dL_law_266 ?_
  refine l_aload_n hO dL_law_267 2 rfl rfl ?_
  refine l_callYI hO hY mdX12_town mvX12_town rfl w1465 (As := []) (st := []) (ctX12_town n0 hO.2.2.2.2.2.2.2.1 _) (Nat.le_of_ble_eq_true rfl) rfl rfl (Nat.le_of_ble_eq_true rfl) hcs hsl dL_law_268 ?_
  refine l_pop hO dL_law_271 ?_
  refine l_goto (pc := 272) hO dL_law_272 (tgt := 1072) (by decide) ?_
  exact K
def stp3 (n0 : Nat) (a : Nat → Int32) (MX MY : Mem) : Option (Mem × Mem) := (fX11_fault n0 (a 1) MX).bind fun zx => (fX12_fault n0 (a 1) MY).bind fun zy => some (zx.2, zy.2)
theorem cas3 (n0 : Nat) {j : Nat} (hO : OKl p s m meth c b L xs D cy ax ay) (hj : j + 6 ≤ L) (hL : L ≤ 3072) (hcs : cells ≤ 600000) (hsl : slots ≤ 7302250) {Z : Mem × Mem} (h : stp3 n0 (fun t => xs (j + t)) MX MY = some Z) (K : LB p l e s m below meth c b D cy ax ay cells slots 1072 [(0, .ref b), (1, .ref (ax 0)), (2, .ref (ay 0)), (3, .int (nI j))] [] Z.1 Z.2) : LB p l e s m below meth c b D cy ax ay cells slots 275 [(0, .ref b), (1, .ref (ax 0)), (2, .ref (ay 0)), (3, .int (nI j))] [] MX MY := by
  obtain ⟨zx, hX, h⟩ := Option.bind_eq_some_iff.mp h
  obtain ⟨zy, hY, h⟩ := Option.bind_eq_some_iff.mp h
  cases h
  refine l_aload_n hO dL_law_275 1 rfl rfl ?_
  refine l_aload_n hO dL_law_276 0 rfl rfl ?_
  refine l_iload_n hO dL_law_277 3 rfl rfl ?_
  refine l_iconst hO dL_law_278 ic_i_1 ?_
  refine l_iadd hO dL_law_279 (v := nI (j + 1)) (nI_add j 1) ?_
  refine l_sld hO (n := j + 1) (by omega) (by omega) rfl dL_law_280 ?_
  refine l_callXI hO hX mdX11_fault mvX11_fault rfl w904 (As := [.int _]) (st := []) (ctX11_fault n0 hO.2.2.2.2.2.2.1 _ _) (Nat.le_of_ble_eq_true rfl) rfl rfl (Nat.le_of_ble_eq_true rfl) hcs hsl dL_law_281 ?_
  refine l_pop hO dL_law_284 ?_
  refine l_aload_n hO dL_law_285 2 rfl rfl ?_
  refine l_aload_n hO dL_law_286 0 rfl rfl ?_
  refine l_iload_n hO dL_law_287 3 rfl rfl ?_
  refine l_iconst hO dL_law_288 ic_i_1 ?_
  refine l_iadd hO dL_law_289 (v := nI (j + 1)) (nI_add j 1) ?_
  refine l_sld hO (n := j + 1) (by omega) (by omega) rfl dL_law_290 ?_
  refine l_callYI hO hY mdX12_fault mvX12_fault rfl w1689 (As := [.int _]) (st := []) (ctX12_fault n0 hO.2.2.2.2.2.2.2.1 _ _) (Nat.le_of_ble_eq_true rfl) rfl rfl (Nat.le_of_ble_eq_true rfl) hcs hsl dL_law_291 ?_
  refine l_pop hO dL_law_294 ?_
  refine l_goto (pc := 295) hO dL_law_295 (tgt := 1072) (by decide) ?_
  exact K
def stp4 (n0 : Nat) (a : Nat → Int32) (MX MY : Mem) : Option (Mem × Mem) := (fX11_has n0 (a 1) MX).bind fun zx => (fX12_has n0 (a 1) MY).bind fun zy => some (zx.2, zy.2)
theorem cas4 (n0 : Nat) {j : Nat} (hO : OKl p s m meth c b L xs D cy ax ay) (hj : j + 6 ≤ L) (hL : L ≤ 3072) (hcs : cells ≤ 600000) (hsl : slots ≤ 7302250) {Z : Mem × Mem} (h : stp4 n0 (fun t => xs (j + t)) MX MY = some Z) (K : LB p l e s m below meth c b D cy ax ay cells slots 1072 [(0, .ref b), (1, .ref (ax 0)), (2, .ref (ay 0)), (3, .int (nI j))] [] Z.1 Z.2) : LB p l e s m below meth c b D cy ax ay cells slots 298 [(0, .ref b), (1, .ref (ax 0)), (2, .ref (ay 0)), (3, .int (nI j))] [] MX MY := by
  obtain ⟨zx, hX, h⟩ := Option.bind_eq_some_iff.mp h
  obtain ⟨zy, hY, h⟩ := Option.bind_eq_some_iff.mp h
  cases h
  refine l_aload_n hO dL_law_298 1 rfl rfl ?_
  refine l_aload_n hO dL_law_299 0 rfl rfl ?_
  refine l_iload_n hO dL_law_300 3 rfl rfl ?_
  refine l_iconst hO dL_law_301 ic_i_1 ?_
  refine l_iadd hO dL_law_302 (v := nI (j + 1)) (nI_add j 1) ?_
  refine l_sld hO (n := j + 1) (by omega) (by omega) rfl dL_law_303 ?_
  refine l_callXI hO hX mdX11_has mvX11_has rfl w908 (As := [.int _]) (st := []) (ctX11_has n0 hO.2.2.2.2.2.2.1 _ _) (Nat.le_of_ble_eq_true rfl) rfl rfl (Nat.le_of_ble_eq_true rfl) hcs hsl dL_law_304 ?_
  refine l_pop hO dL_law_307 ?_
  refine l_aload_n hO dL_law_308 2 rfl rfl ?_
  refine l_aload_n hO dL_law_309 0 rfl rfl ?_
  refine l_iload_n hO dL_law_310 3 rfl rfl ?_
  refine l_iconst hO dL_law_311 ic_i_1 ?_
  refine l_iadd hO dL_law_312 (v := nI (j + 1)) (nI_add j 1) ?_
  refine l_sld hO (n := j + 1) (by omega) (by omega) rfl dL_law_313 ?_
  refine l_callYI hO hY mdX12_has mvX12_has rfl w1709 (As := [.int _]) (st := []) (ctX12_has n0 hO.2.2.2.2.2.2.2.1 _ _) (Nat.le_of_ble_eq_true rfl) rfl rfl (Nat.le_of_ble_eq_true rfl) hcs hsl dL_law_314 ?_
  refine l_pop hO dL_law_317 ?_
  refine l_goto (pc := 318) hO dL_law_318 (tgt := 1072) (by decide) ?_
  exact K
def stp5 (n0 : Nat) (a : Nat → Int32) (MX MY : Mem) : Option (Mem × Mem) := (fX11_letter n0 (a 1) (a 2) (a 3) MX).bind fun zx => (fX12_letter n0 (a 1) (a 2) (a 3) MY).bind fun zy => some (zx.2, zy.2)
theorem cas5 (n0 : Nat) {j : Nat} (hO : OKl p s m meth c b L xs D cy ax ay) (hj : j + 6 ≤ L) (hL : L ≤ 3072) (hcs : cells ≤ 600000) (hsl : slots ≤ 7302250) {Z : Mem × Mem} (h : stp5 n0 (fun t => xs (j + t)) MX MY = some Z) (K : LB p l e s m below meth c b D cy ax ay cells slots 1072 [(0, .ref b), (1, .ref (ax 0)), (2, .ref (ay 0)), (3, .int (nI j))] [] Z.1 Z.2) : LB p l e s m below meth c b D cy ax ay cells slots 321 [(0, .ref b), (1, .ref (ax 0)), (2, .ref (ay 0)), (3, .int (nI j))] [] MX MY := by
  obtain ⟨zx, hX, h⟩ := Option.bind_eq_some_iff.mp h
  obtain ⟨zy, hY, h⟩ := Option.bind_eq_some_iff.mp h
  cases h
  refine l_aload_n hO dL_law_321 1 rfl rfl ?_
  refine l_aload_n hO dL_law_322 0 rfl rfl ?_
  refine l_iload_n hO dL_law_323 3 rfl rfl ?_
  refine l_iconst hO dL_law_324 ic_i_1 ?_
  refine l_iadd hO dL_law_325 (v := nI (j + 1)) (nI_add j 1) ?_
  refine l_sld hO (n := j + 1) (by omega) (by omega) rfl dL_law_326 ?_
  refine l_aload_n hO dL_law_327 0 rfl rfl ?_
  refine l_iload_n hO dL_law_328 3 rfl rfl ?_
  refine l_iconst hO dL_law_329 ic_i_2 ?_
  refine l_iadd hO dL_law_330 (v := nI (j + 2)) (nI_add j 2) ?_
  refine l_sld hO (n := j + 2) (by omega) (by omega) rfl dL_law_331 ?_
  refine l_aload_n hO dL_law_332 0 rfl rfl ?_
  refine l_iload_n hO dL_law_333 3 rfl rfl ?_
  refine l_iconst hO dL_law_334 ic_i_3 ?_
  refine l_iadd hO dL_law_335 (v := nI (j + 3)) (nI_add j 3) ?_
  refine l_sld hO (n := j + 3) (by omega) (by omega) rfl dL_law_336 ?_
  refine l_callXI hO hX mdX11_letter mvX11_letter rfl w920 (As := [.int _, .int _, .int _]) (st := []) (ctX11_letter n0 hO.2.2.2.2.2.2.1 _ _ _ _) (Nat.le_of_ble_eq_true rfl) rfl rfl (Nat.le_of_ble_eq_true rfl) hcs hsl dL_law_337 ?_
  refine l_pop hO dL_law_340 ?_
  refine l_aload_n hO dL_law_341 2 rfl rfl ?_
  refine l_aload_n hO dL_law_342 0 rfl rfl ?_
  refine l_iload_n hO dL_law_343 3 rfl rfl ?_
  refine l_iconst hO dL_law_344 ic_i_1 ?_
  refine l_iadd hO dL_law_345 (v := nI (j + 1)) (nI_add j 1) ?_
  refine l_sld hO (n := j + 1) (by omega) (by omega) rfl dL_law_346 ?_
  refine l_aload_n hO dL_law_347 0 rfl rfl ?_
  refine l_iload_n hO dL_law_348 3 rfl rfl ?_
  refine l_iconst hO dL_law_349 ic_i_2 ?_
  refine l_iadd hO dL_law_350 (v := nI (j + 2)) (nI_add j 2) ?_
  refine l_sld hO (n := j + 2) (by omega) (by omega) rfl dL_law_351 ?_
  refine l_aload_n hO dL_law_352 0 rfl rfl ?_
  refine l_iload_n hO dL_law_353 3 rfl rfl ?_
  refine l_iconst hO dL_law_354 ic_i_3 ?_
  refine l_iadd hO dL_law_355 (v := nI (j + 3)) (nI_add j 3) ?_
  refine l_sld hO (n := j + 3) (by omega) (by omega) rfl dL_law_356 ?_
  refine l_callYI hO hY mdX12_letter mvX12_letter rfl w1716 (As := [.int _, .int _, .int _]) (st := []) (ctX12_letter n0 hO.2.2.2.2.2.2.2.1 _ _ _ _) (Nat.le_of_ble_eq_true rfl) rfl rfl (Nat.le_of_ble_eq_true rfl) hcs hsl dL_law_357 ?_
  refine l_pop hO dL_law_360 ?_
  refine l_goto (pc := 361) hO dL_law_361 (tgt := 1072) (by decide) ?_
  exact K
def stp6 (n0 : Nat) (a : Nat → Int32) (MX MY : Mem) : Option (Mem × Mem) := (fX11_thing n0 (a 1) (a 2) MX).bind fun zx => (fX12_thing n0 (a 1) (a 2) MY).bind fun zy => some (zx.2, zy.2)
theorem cas6 (n0 : Nat) {j : Nat} (hO : OKl p s m meth c b L xs D cy ax ay) (hj : j + 6 ≤ L) (hL : L ≤ 3072) (hcs : cells ≤ 600000) (hsl : slots ≤ 7302250) {Z : Mem × Mem} (h : stp6 n0 (fun t => xs (j + t)) MX MY = some Z) (K : LB p l e s m below meth c b D cy ax ay cells slots 1072 [(0, .ref b), (1, .ref (ax 0)), (2, .ref (ay 0)), (3, .int (nI j))] [] Z.1 Z.2) : LB p l e s m below meth c b D cy ax ay cells slots 364 [(0, .ref b), (1, .ref (ax 0)), (2, .ref (ay 0)), (3, .int (nI j))] [] MX MY := by
  obtain ⟨zx, hX, h⟩ := Option.bind_eq_some_iff.mp h
  obtain ⟨zy, hY, h⟩ := Option.bind_eq_some_iff.mp h
  cases h
  refine l_aload_n hO dL_law_364 1 rfl rfl ?_
  refine l_aload_n hO dL_law_365 0 rfl rfl ?_
  refine l_iload_n hO dL_law_366 3 rfl rfl ?_
  refine l_iconst hO dL_law_367 ic_i_1 ?_
  refine l_iadd hO dL_law_368 (v := nI (j + 1)) (nI_add j 1) ?_
  refine l_sld hO (n := j + 1) (by omega) (by omega) rfl dL_law_369 ?_
  refine l_aload_n hO dL_law_370 0 rfl rfl ?_
  refine l_iload_n hO dL_law_371 3 rfl rfl ?_
  refine l_iconst hO dL_law_372 ic_i_2 ?_
  refine l_iadd hO dL_law_373 (v := nI (j + 2)) (nI_add j 2) ?_
  refine l_sld hO (n := j + 2) (by omega) (by omega) rfl dL_law_374 ?_
  refine l_callXI hO hX mdX11_thing mvX11_thing rfl w936 (As := [.int _, .int _]) (st := []) (ctX11_thing n0 hO.2.2.2.2.2.2.1 _ _ _) (Nat.le_of_ble_eq_true rfl) rfl rfl (Nat.le_of_ble_eq_true rfl) hcs hsl dL_law_375 ?_
  refine l_pop hO dL_law_378 ?_
  refine l_aload_n hO dL_law_379 2 rfl rfl ?_
  refine l_aload_n hO dL_law_380 0 rfl rfl ?_
  refine l_iload_n hO dL_law_381 3 rfl rfl ?_
  refine l_iconst hO dL_law_382 ic_i_1 ?_
  refine l_iadd hO dL_law_383 (v := nI (j + 1)) (nI_add j 1) ?_
  refine l_sld hO (n := j + 1) (by omega) (by omega) rfl dL_law_384 ?_
  refine l_aload_n hO dL_law_385 0 rfl rfl ?_
  refine l_iload_n hO dL_law_386 3 rfl rfl ?_
  refine l_iconst hO dL_law_387 ic_i_2 ?_
  refine l_iadd hO dL_law_388 (v := nI (j + 2)) (nI_add j 2) ?_
  refine l_sld hO (n := j + 2) (by omega) (by omega) rfl dL_law_389 ?_
  refine l_callYI hO hY mdX12_thing mvX12_thing rfl w1721 (As := [.int _, .int _]) (st := []) (ctX12_thing n0 hO.2.2.2.2.2.2.2.1 _ _ _) (Nat.le_of_ble_eq_true rfl) rfl rfl (Nat.le_of_ble_eq_true rfl) hcs hsl dL_law_390 ?_
  refine l_pop hO dL_law_393 ?_
  refine l_goto (pc := 394) hO dL_law_394 (tgt := 1072) (by decide) ?_
  exact K
def stp7 (n0 : Nat) (a : Nat → Int32) (MX MY : Mem) : Option (Mem × Mem) := (fX11_corner n0 (a 1) (a 2) MX).bind fun zx => (fX12_corner n0 (a 1) (a 2) MY).bind fun zy => some (zx.2, zy.2)
theorem cas7 (n0 : Nat) {j : Nat} (hO : OKl p s m meth c b L xs D cy ax ay) (hj : j + 6 ≤ L) (hL : L ≤ 3072) (hcs : cells ≤ 600000) (hsl : slots ≤ 7302250) {Z : Mem × Mem} (h : stp7 n0 (fun t => xs (j + t)) MX MY = some Z) (K : LB p l e s m below meth c b D cy ax ay cells slots 1072 [(0, .ref b), (1, .ref (ax 0)), (2, .ref (ay 0)), (3, .int (nI j))] [] Z.1 Z.2) : LB p l e s m below meth c b D cy ax ay cells slots 397 [(0, .ref b), (1, .ref (ax 0)), (2, .ref (ay 0)), (3, .int (nI j))] [] MX MY := by
  obtain ⟨zx, hX, h⟩ := Option.bind_eq_some_iff.mp h
  obtain ⟨zy, hY, h⟩ := Option.bind_eq_some_iff.mp h
  cases h
  refine l_aload_n hO dL_law_397 1 rfl rfl ?_
  refine l_aload_n hO dL_law_398 0 rfl rfl ?_
  refine l_iload_n hO dL_law_399 3 rfl rfl ?_
  refine l_iconst hO dL_law_400 ic_i_1 ?_
  refine l_iadd hO dL_law_401 (v := nI (j + 1)) (nI_add j 1) ?_
  refine l_sld hO (n := j + 1) (by omega) (by omega) rfl dL_law_402 ?_
  refine l_aload_n hO dL_law_403 0 rfl rfl ?_
  refine l_iload_n hO dL_law_404 3 rfl rfl ?_
  refine l_iconst hO dL_law_405 ic_i_2 ?_
  refine l_iadd hO dL_law_406 (v := nI (j + 2)) (nI_add j 2) ?_
  refine l_sld hO (n := j + 2) (by omega) (by omega) rfl dL_law_407 ?_
  refine l_callXI hO hX mdX11_corner mvX11_corner rfl w940 (As := [.int _, .int _]) (st := []) (ctX11_corner n0 hO.2.2.2.2.2.2.1 _ _ _) (Nat.le_of_ble_eq_true rfl) rfl rfl (Nat.le_of_ble_eq_true rfl) hcs hsl dL_law_408 ?_
  refine l_pop hO dL_law_411 ?_
  refine l_aload_n hO dL_law_412 2 rfl rfl ?_
  refine l_aload_n hO dL_law_413 0 rfl rfl ?_
  refine l_iload_n hO dL_law_414 3 rfl rfl ?_
  refine l_iconst hO dL_law_415 ic_i_1 ?_
  refine l_iadd hO dL_law_416 (v := nI (j + 1)) (nI_add j 1) ?_
  refine l_sld hO (n := j + 1) (by omega) (by omega) rfl dL_law_417 ?_
  refine l_aload_n hO dL_law_418 0 rfl rfl ?_
  refine l_iload_n hO dL_law_419 3 rfl rfl ?_
  refine l_iconst hO dL_law_420 ic_i_2 ?_
  refine l_iadd hO dL_law_421 (v := nI (j + 2)) (nI_add j 2) ?_
  refine l_sld hO (n := j + 2) (by omega) (by omega) rfl dL_law_422 ?_
  refine l_callYI hO hY mdX12_corner mvX12_corner rfl w1729 (As := [.int _, .int _]) (st := []) (ctX12_corner n0 hO.2.2.2.2.2.2.2.1 _ _ _) (Nat.le_of_ble_eq_true rfl) rfl rfl (Nat.le_of_ble_eq_true rfl) hcs hsl dL_law_423 ?_
  refine l_pop hO dL_law_426 ?_
  refine l_goto (pc := 427) hO dL_law_427 (tgt := 1072) (by decide) ?_
  exact K
def stp8 (n0 : Nat) (a : Nat → Int32) (MX MY : Mem) : Option (Mem × Mem) := (fX11_doing n0 (a 1) (a 2) MX).bind fun zx => (fX12_doing n0 (a 1) (a 2) MY).bind fun zy => some (zx.2, zy.2)
theorem cas8 (n0 : Nat) {j : Nat} (hO : OKl p s m meth c b L xs D cy ax ay) (hj : j + 6 ≤ L) (hL : L ≤ 3072) (hcs : cells ≤ 600000) (hsl : slots ≤ 7302250) {Z : Mem × Mem} (h : stp8 n0 (fun t => xs (j + t)) MX MY = some Z) (K : LB p l e s m below meth c b D cy ax ay cells slots 1072 [(0, .ref b), (1, .ref (ax 0)), (2, .ref (ay 0)), (3, .int (nI j))] [] Z.1 Z.2) : LB p l e s m below meth c b D cy ax ay cells slots 430 [(0, .ref b), (1, .ref (ax 0)), (2, .ref (ay 0)), (3, .int (nI j))] [] MX MY := by
  obtain ⟨zx, hX, h⟩ := Option.bind_eq_some_iff.mp h
  obtain ⟨zy, hY, h⟩ := Option.bind_eq_some_iff.mp h
  cases h
  refine l_aload_n hO dL_law_430 1 rfl rfl ?_
  refine l_aload_n hO dL_law_431 0 rfl rfl ?_
  refine l_iload_n hO dL_law_432 3 rfl rfl ?_
  refine l_iconst hO dL_law_433 ic_i_1 ?_
  refine l_iadd hO dL_law_434 (v := nI (j + 1)) (nI_add j 1) ?_
  refine l_sld hO (n := j + 1) (by omega) (by omega) rfl dL_law_435 ?_
  refine l_aload_n hO dL_law_436 0 rfl rfl ?_
  refine l_iload_n hO dL_law_437 3 rfl rfl ?_
  refine l_iconst hO dL_law_438 ic_i_2 ?_
  refine l_iadd hO dL_law_439 (v := nI (j + 2)) (nI_add j 2) ?_
  refine l_sld hO (n := j + 2) (by omega) (by omega) rfl dL_law_440 ?_
  refine l_callXI hO hX mdX11_doing mvX11_doing rfl w954 (As := [.int _, .int _]) (st := []) (ctX11_doing n0 hO.2.2.2.2.2.2.1 _ _ _) (Nat.le_of_ble_eq_true rfl) rfl rfl (Nat.le_of_ble_eq_true rfl) hcs hsl dL_law_441 ?_
  refine l_pop hO dL_law_444 ?_
  refine l_aload_n hO dL_law_445 2 rfl rfl ?_
  refine l_aload_n hO dL_law_446 0 rfl rfl ?_
  refine l_iload_n hO dL_law_447 3 rfl rfl ?_
  refine l_iconst hO dL_law_448 ic_i_1 ?_
  refine l_iadd hO dL_law_449 (v := nI (j + 1)) (nI_add j 1) ?_
  refine l_sld hO (n := j + 1) (by omega) (by omega) rfl dL_law_450 ?_
  refine l_aload_n hO dL_law_451 0 rfl rfl ?_
  refine l_iload_n hO dL_law_452 3 rfl rfl ?_
  refine l_iconst hO dL_law_453 ic_i_2 ?_
  refine l_iadd hO dL_law_454 (v := nI (j + 2)) (nI_add j 2) ?_
  refine l_sld hO (n := j + 2) (by omega) (by omega) rfl dL_law_455 ?_
  refine l_callYI hO hY mdX12_doing mvX12_doing rfl w1737 (As := [.int _, .int _]) (st := []) (ctX12_doing n0 hO.2.2.2.2.2.2.2.1 _ _ _) (Nat.le_of_ble_eq_true rfl) rfl rfl (Nat.le_of_ble_eq_true rfl) hcs hsl dL_law_456 ?_
  refine l_pop hO dL_law_459 ?_
  refine l_goto (pc := 460) hO dL_law_460 (tgt := 1072) (by decide) ?_
  exact K
def stp9 (n0 : Nat) (a : Nat → Int32) (MX MY : Mem) : Option (Mem × Mem) := (fX11_later n0 (a 1) (a 2) MX).bind fun zx => (fX12_later n0 (a 1) (a 2) MY).bind fun zy => some (zx.2, zy.2)
theorem cas9 (n0 : Nat) {j : Nat} (hO : OKl p s m meth c b L xs D cy ax ay) (hj : j + 6 ≤ L) (hL : L ≤ 3072) (hcs : cells ≤ 600000) (hsl : slots ≤ 7302250) {Z : Mem × Mem} (h : stp9 n0 (fun t => xs (j + t)) MX MY = some Z) (K : LB p l e s m below meth c b D cy ax ay cells slots 1072 [(0, .ref b), (1, .ref (ax 0)), (2, .ref (ay 0)), (3, .int (nI j))] [] Z.1 Z.2) : LB p l e s m below meth c b D cy ax ay cells slots 463 [(0, .ref b), (1, .ref (ax 0)), (2, .ref (ay 0)), (3, .int (nI j))] [] MX MY := by
  obtain ⟨zx, hX, h⟩ := Option.bind_eq_some_iff.mp h
  obtain ⟨zy, hY, h⟩ := Option.bind_eq_some_iff.mp h
  cases h
  refine l_aload_n hO dL_law_463 1 rfl rfl ?_
  refine l_aload_n hO dL_law_464 0 rfl rfl ?_
  refine l_iload_n hO dL_law_465 3 rfl rfl ?_
  refine l_iconst hO dL_law_466 ic_i_1 ?_
  refine l_iadd hO dL_law_467 (v := nI (j + 1)) (nI_add j 1) ?_
  refine l_sld hO (n := j + 1) (by omega) (by omega) rfl dL_law_468 ?_
  refine l_aload_n hO dL_law_469 0 rfl rfl ?_
  refine l_iload_n hO dL_law_470 3 rfl rfl ?_
  refine l_iconst hO dL_law_471 ic_i_2 ?_
  refine l_iadd hO dL_law_472 (v := nI (j + 2)) (nI_add j 2) ?_
  refine l_sld hO (n := j + 2) (by omega) (by omega) rfl dL_law_473 ?_
  refine l_callXI hO hX mdX11_later mvX11_later rfl w958 (As := [.int _, .int _]) (st := []) (ctX11_later n0 hO.2.2.2.2.2.2.1 _ _ _) (Nat.le_of_ble_eq_true rfl) rfl rfl (Nat.le_of_ble_eq_true rfl) hcs hsl dL_law_474 ?_
  refine l_pop hO dL_law_477 ?_
  refine l_aload_n hO dL_law_478 2 rfl rfl ?_
  refine l_aload_n hO dL_law_479 0 rfl rfl ?_
  refine l_iload_n hO dL_law_480 3 rfl rfl ?_
  refine l_iconst hO dL_law_481 ic_i_1 ?_
  refine l_iadd hO dL_law_482 (v := nI (j + 1)) (nI_add j 1) ?_
  refine l_sld hO (n := j + 1) (by omega) (by omega) rfl dL_law_483 ?_
  refine l_aload_n hO dL_law_484 0 rfl rfl ?_
  refine l_iload_n hO dL_law_485 3 rfl rfl ?_
  refine l_iconst hO dL_law_486 ic_i_2 ?_
  refine l_iadd hO dL_law_487 (v := nI (j + 2)) (nI_add j 2) ?_
  refine l_sld hO (n := j + 2) (by omega) (by omega) rfl dL_law_488 ?_
  refine l_callYI hO hY mdX12_later mvX12_later rfl w1745 (As := [.int _, .int _]) (st := []) (ctX12_later n0 hO.2.2.2.2.2.2.2.1 _ _ _) (Nat.le_of_ble_eq_true rfl) rfl rfl (Nat.le_of_ble_eq_true rfl) hcs hsl dL_law_489 ?_
  refine l_pop hO dL_law_492 ?_
  refine l_goto (pc := 493) hO dL_law_493 (tgt := 1072) (by decide) ?_
  exact K
def stp10 (n0 : Nat) (a : Nat → Int32) (MX MY : Mem) : Option (Mem × Mem) := (fX11_when n0 (a 1) MX).bind fun zx => (fX12_when n0 (a 1) MY).bind fun zy => some (zx.2, zy.2)
theorem cas10 (n0 : Nat) {j : Nat} (hO : OKl p s m meth c b L xs D cy ax ay) (hj : j + 6 ≤ L) (hL : L ≤ 3072) (hcs : cells ≤ 600000) (hsl : slots ≤ 7302250) {Z : Mem × Mem} (h : stp10 n0 (fun t => xs (j + t)) MX MY = some Z) (K : LB p l e s m below meth c b D cy ax ay cells slots 1072 [(0, .ref b), (1, .ref (ax 0)), (2, .ref (ay 0)), (3, .int (nI j))] [] Z.1 Z.2) : LB p l e s m below meth c b D cy ax ay cells slots 496 [(0, .ref b), (1, .ref (ax 0)), (2, .ref (ay 0)), (3, .int (nI j))] [] MX MY := by
  obtain ⟨zx, hX, h⟩ := Option.bind_eq_some_iff.mp h
  obtain ⟨zy, hY, h⟩ := Option.bind_eq_some_iff.mp h
  cases h
  refine l_aload_n hO dL_law_496 1 rfl rfl ?_
  refine l_aload_n hO dL_law_497 0 rfl rfl ?_
  refine l_iload_n hO dL_law_498 3 rfl rfl ?_
  refine l_iconst hO dL_law_499 ic_i_1 ?_
  refine l_iadd hO dL_law_500 (v := nI (j + 1)) (nI_add j 1) ?_
  refine l_sld hO (n := j + 1) (by omega) (by omega) rfl dL_law_501 ?_
  refine l_callXI hO hX mdX11_when mvX11_when rfl w979 (As := [.int _]) (st := []) (ctX11_when n0 hO.2.2.2.2.2.2.1 _ _) (Nat.le_of_ble_eq_true rfl) rfl rfl (Nat.le_of_ble_eq_true rfl) hcs hsl dL_law_502 ?_
  refine l_pop hO dL_law_505 ?_
  refine l_aload_n hO dL_law_506 2 rfl rfl ?_
  refine l_aload_n hO dL_law_507 0 rfl rfl ?_
  refine l_iload_n hO dL_law_508 3 rfl rfl ?_
  refine l_iconst hO dL_law_509 ic_i_1 ?_
  refine l_iadd hO dL_law_510 (v := nI (j + 1)) (nI_add j 1) ?_
  refine l_sld hO (n := j + 1) (by omega) (by omega) rfl dL_law_511 ?_
  refine l_callYI hO hY mdX12_when mvX12_when rfl w1769 (As := [.int _]) (st := []) (ctX12_when n0 hO.2.2.2.2.2.2.2.1 _ _) (Nat.le_of_ble_eq_true rfl) rfl rfl (Nat.le_of_ble_eq_true rfl) hcs hsl dL_law_512 ?_
  refine l_pop hO dL_law_515 ?_
  refine l_goto (pc := 516) hO dL_law_516 (tgt := 1072) (by decide) ?_
  exact K
def stp11 (n0 : Nat) (a : Nat → Int32) (MX MY : Mem) : Option (Mem × Mem) := (fX11_alike n0 (a 1) (a 2) MX).bind fun zx => (fX12_alike n0 (a 1) (a 2) MY).bind fun zy => some (zx.2, zy.2)
theorem cas11 (n0 : Nat) {j : Nat} (hO : OKl p s m meth c b L xs D cy ax ay) (hj : j + 6 ≤ L) (hL : L ≤ 3072) (hcs : cells ≤ 600000) (hsl : slots ≤ 7302250) {Z : Mem × Mem} (h : stp11 n0 (fun t => xs (j + t)) MX MY = some Z) (K : LB p l e s m below meth c b D cy ax ay cells slots 1072 [(0, .ref b), (1, .ref (ax 0)), (2, .ref (ay 0)), (3, .int (nI j))] [] Z.1 Z.2) : LB p l e s m below meth c b D cy ax ay cells slots 519 [(0, .ref b), (1, .ref (ax 0)), (2, .ref (ay 0)), (3, .int (nI j))] [] MX MY := by
  obtain ⟨zx, hX, h⟩ := Option.bind_eq_some_iff.mp h
  obtain ⟨zy, hY, h⟩ := Option.bind_eq_some_iff.mp h
  cases h
  refine l_aload_n hO dL_law_519 1 rfl rfl ?_
  refine l_aload_n hO dL_law_520 0 rfl rfl ?_
  refine l_iload_n hO dL_law_521 3 rfl rfl ?_
  refine l_iconst hO dL_law_522 ic_i_1 ?_
  refine l_iadd hO dL_law_523 (v := nI (j + 1)) (nI_add j 1) ?_
  refine l_sld hO (n := j + 1) (by omega) (by omega) rfl dL_law_524 ?_
  refine l_aload_n hO dL_law_525 0 rfl rfl ?_
  refine l_iload_n hO dL_law_526 3 rfl rfl ?_
  refine l_iconst hO dL_law_527 ic_i_2 ?_
  refine l_iadd hO dL_law_528 (v := nI (j + 2)) (nI_add j 2) ?_
  refine l_sld hO (n := j + 2) (by omega) (by omega) rfl dL_law_529 ?_
  refine l_callXI hO hX mdX11_alike mvX11_alike rfl w983 (As := [.int _, .int _]) (st := []) (ctX11_alike n0 hO.2.2.2.2.2.2.1 _ _ _) (Nat.le_of_ble_eq_true rfl) rfl rfl (Nat.le_of_ble_eq_true rfl) hcs hsl dL_law_530 ?_
  refine l_pop hO dL_law_533 ?_
  refine l_aload_n hO dL_law_534 2 rfl rfl ?_
  refine l_aload_n hO dL_law_535 0 rfl rfl ?_
  refine l_iload_n hO dL_law_536 3 rfl rfl ?_
  refine l_iconst hO dL_law_537 ic_i_1 ?_
  refine l_iadd hO dL_law_538 (v := nI (j + 1)) (nI_add j 1) ?_
  refine l_sld hO (n := j + 1) (by omega) (by omega) rfl dL_law_539 ?_
  refine l_aload_n hO dL_law_540 0 rfl rfl ?_
  refine l_iload_n hO dL_law_541 3 rfl rfl ?_
  refine l_iconst hO dL_law_542 ic_i_2 ?_
  refine l_iadd hO dL_law_543 (v := nI (j + 2)) (nI_add j 2) ?_
  refine l_sld hO (n := j + 2) (by omega) (by omega) rfl dL_law_544 ?_
  refine l_callYI hO hY mdX12_alike mvX12_alike rfl w1773 (As := [.int _, .int _]) (st := []) (ctX12_alike n0 hO.2.2.2.2.2.2.2.1 _ _ _) (Nat.le_of_ble_eq_true rfl) rfl rfl (Nat.le_of_ble_eq_true rfl) hcs hsl dL_law_545 ?_
  refine l_pop hO dL_law_548 ?_
  refine l_goto (pc := 549) hO dL_law_549 (tgt := 1072) (by decide) ?_
  exact K
def stp12 (n0 : Nat) (a : Nat → Int32) (MX MY : Mem) : Option (Mem × Mem) := (fX11_plan n0 (a 1) (a 2) (a 3) MX).bind fun zx => (fX12_plan n0 (a 1) (a 2) (a 3) MY).bind fun zy => some (zx.2, zy.2)
theorem cas12 (n0 : Nat) {j : Nat} (hO : OKl p s m meth c b L xs D cy ax ay) (hj : j + 6 ≤ L) (hL : L ≤ 3072) (hcs : cells ≤ 600000) (hsl : slots ≤ 7302250) {Z : Mem × Mem} (h : stp12 n0 (fun t => xs (j + t)) MX MY = some Z) (K : LB p l e s m below meth c b D cy ax ay cells slots 1072 [(0, .ref b), (1, .ref (ax 0)), (2, .ref (ay 0)), (3, .int (nI j))] [] Z.1 Z.2) : LB p l e s m below meth c b D cy ax ay cells slots 552 [(0, .ref b), (1, .ref (ax 0)), (2, .ref (ay 0)), (3, .int (nI j))] [] MX MY := by
  obtain ⟨zx, hX, h⟩ := Option.bind_eq_some_iff.mp h
  obtain ⟨zy, hY, h⟩ := Option.bind_eq_some_iff.mp h
  cases h
  refine l_aload_n hO dL_law_552 1 rfl rfl ?_
  refine l_aload_n hO dL_law_553 0 rfl rfl ?_
  refine l_iload_n hO dL_law_554 3 rfl rfl ?_
  refine l_iconst hO dL_law_555 ic_i_1 ?_
  refine l_iadd hO dL_law_556 (v := nI (j + 1)) (nI_add j 1) ?_
  refine l_sld hO (n := j + 1) (by omega) (by omega) rfl dL_law_557 ?_
  refine l_aload_n hO dL_law_558 0 rfl rfl ?_
  refine l_iload_n hO dL_law_559 3 rfl rfl ?_
  refine l_iconst hO dL_law_560 ic_i_2 ?_
  refine l_iadd hO dL_law_561 (v := nI (j + 2)) (nI_add j 2) ?_
  refine l_sld hO (n := j + 2) (by omega) (by omega) rfl dL_law_562 ?_
  refine l_aload_n hO dL_law_563 0 rfl rfl ?_
  refine l_iload_n hO dL_law_564 3 rfl rfl ?_
  refine l_iconst hO dL_law_565 ic_i_3 ?_
  refine l_iadd hO dL_law_566 (v := nI (j + 3)) (nI_add j 3) ?_
  refine l_sld hO (n := j + 3) (by omega) (by omega) rfl dL_law_567 ?_
  refine l_callXI hO hX mdX11_plan mvX11_plan rfl w987 (As := [.int _, .int _, .int _]) (st := []) (ctX11_plan n0 hO.2.2.2.2.2.2.1 _ _ _ _) (Nat.le_of_ble_eq_true rfl) rfl rfl (Nat.le_of_ble_eq_true rfl) hcs hsl dL_law_568 ?_
  refine l_pop hO dL_law_571 ?_
  refine l_aload_n hO dL_law_572 2 rfl rfl ?_
  refine l_aload_n hO dL_law_573 0 rfl rfl ?_
  refine l_iload_n hO dL_law_574 3 rfl rfl ?_
  refine l_iconst hO dL_law_575 ic_i_1 ?_
  refine l_iadd hO dL_law_576 (v := nI (j + 1)) (nI_add j 1) ?_
  refine l_sld hO (n := j + 1) (by omega) (by omega) rfl dL_law_577 ?_
  refine l_aload_n hO dL_law_578 0 rfl rfl ?_
  refine l_iload_n hO dL_law_579 3 rfl rfl ?_
  refine l_iconst hO dL_law_580 ic_i_2 ?_
  refine l_iadd hO dL_law_581 (v := nI (j + 2)) (nI_add j 2) ?_
  refine l_sld hO (n := j + 2) (by omega) (by omega) rfl dL_law_582 ?_
  refine l_aload_n hO dL_law_583 0 rfl rfl ?_
  refine l_iload_n hO dL_law_584 3 rfl rfl ?_
  refine l_iconst hO dL_law_585 ic_i_3 ?_
  refine l_iadd hO dL_law_586 (v := nI (j + 3)) (nI_add j 3) ?_
  refine l_sld hO (n := j + 3) (by omega) (by omega) rfl dL_law_587 ?_
  refine l_callYI hO hY mdX12_plan mvX12_plan rfl w1777 (As := [.int _, .int _, .int _]) (st := []) (ctX12_plan n0 hO.2.2.2.2.2.2.2.1 _ _ _ _) (Nat.le_of_ble_eq_true rfl) rfl rfl (Nat.le_of_ble_eq_true rfl) hcs hsl dL_law_588 ?_
  refine l_pop hO dL_law_591 ?_
  refine l_goto (pc := 592) hO dL_law_592 (tgt := 1072) (by decide) ?_
  exact K
def stp13 (n0 : Nat) (a : Nat → Int32) (MX MY : Mem) : Option (Mem × Mem) := (fX11_evening n0 (a 1) (a 2) MX).bind fun zx => (fX12_evening n0 (a 1) (a 2) MY).bind fun zy => some (zx.2, zy.2)
theorem cas13 (n0 : Nat) {j : Nat} (hO : OKl p s m meth c b L xs D cy ax ay) (hj : j + 6 ≤ L) (hL : L ≤ 3072) (hcs : cells ≤ 600000) (hsl : slots ≤ 7302250) {Z : Mem × Mem} (h : stp13 n0 (fun t => xs (j + t)) MX MY = some Z) (K : LB p l e s m below meth c b D cy ax ay cells slots 1072 [(0, .ref b), (1, .ref (ax 0)), (2, .ref (ay 0)), (3, .int (nI j))] [] Z.1 Z.2) : LB p l e s m below meth c b D cy ax ay cells slots 595 [(0, .ref b), (1, .ref (ax 0)), (2, .ref (ay 0)), (3, .int (nI j))] [] MX MY := by
  obtain ⟨zx, hX, h⟩ := Option.bind_eq_some_iff.mp h
  obtain ⟨zy, hY, h⟩ := Option.bind_eq_some_iff.mp h
  cases h
  refine l_aload_n hO dL_law_595 1 rfl rfl ?_
  refine l_aload_n hO dL_law_596 0 rfl rfl ?_
  refine l_iload_n hO dL_law_597 3 rfl rfl ?_
  refine l_iconst hO dL_law_598 ic_i_1 ?_
  refine l_iadd hO dL_law_599 (v := nI (j + 1)) (nI_add j 1) ?_
  refine l_sld hO (n := j + 1) (by omega) (by omega) rfl dL_law_600 ?_
  refine l_aload_n hO dL_law_601 0 rfl rfl ?_
  refine l_iload_n hO dL_law_602 3 rfl rfl ?_
  refine l_iconst hO dL_law_603 ic_i_2 ?_
  refine l_iadd hO dL_law_604 (v := nI (j + 2)) (nI_add j 2) ?_
  refine l_sld hO (n := j + 2) (by omega) (by omega) rfl dL_law_605 ?_
  refine l_callXI hO hX mdX11_evening mvX11_evening rfl w1023 (As := [.int _, .int _]) (st := []) (ctX11_evening n0 hO.2.2.2.2.2.2.1 _ _ _) (Nat.le_of_ble_eq_true rfl) rfl rfl (Nat.le_of_ble_eq_true rfl) hcs hsl dL_law_606 ?_
  refine l_pop hO dL_law_609 ?_
  refine l_aload_n hO dL_law_610 2 rfl rfl ?_
  refine l_aload_n hO dL_law_611 0 rfl rfl ?_
  refine l_iload_n hO dL_law_612 3 rfl rfl ?_
  refine l_iconst hO dL_law_613 ic_i_1 ?_
  refine l_iadd hO dL_law_614 (v := nI (j + 1)) (nI_add j 1) ?_
  refine l_sld hO (n := j + 1) (by omega) (by omega) rfl dL_law_615 ?_
  refine l_aload_n hO dL_law_616 0 rfl rfl ?_
  refine l_iload_n hO dL_law_617 3 rfl rfl ?_
  refine l_iconst hO dL_law_618 ic_i_2 ?_
  refine l_iadd hO dL_law_619 (v := nI (j + 2)) (nI_add j 2) ?_
  refine l_sld hO (n := j + 2) (by omega) (by omega) rfl dL_law_620 ?_
  refine l_callYI hO hY mdX12_evening mvX12_evening rfl w1785 (As := [.int _, .int _]) (st := []) (ctX12_evening n0 hO.2.2.2.2.2.2.2.1 _ _ _) (Nat.le_of_ble_eq_true rfl) rfl rfl (Nat.le_of_ble_eq_true rfl) hcs hsl dL_law_621 ?_
  refine l_pop hO dL_law_624 ?_
  refine l_goto (pc := 625) hO dL_law_625 (tgt := 1072) (by decide) ?_
  exact K
def stp14 (n0 : Nat) (a : Nat → Int32) (MX MY : Mem) : Option (Mem × Mem) := (fX11_odds n0 (a 1) (a 2) (a 3) MX).bind fun zx => (fX12_odds n0 (a 1) (a 2) (a 3) MY).bind fun zy => some (zx.2, zy.2)
theorem cas14 (n0 : Nat) {j : Nat} (hO : OKl p s m meth c b L xs D cy ax ay) (hj : j + 6 ≤ L) (hL : L ≤ 3072) (hcs : cells ≤ 600000) (hsl : slots ≤ 7302250) {Z : Mem × Mem} (h : stp14 n0 (fun t => xs (j + t)) MX MY = some Z) (K : LB p l e s m below meth c b D cy ax ay cells slots 1072 [(0, .ref b), (1, .ref (ax 0)), (2, .ref (ay 0)), (3, .int (nI j))] [] Z.1 Z.2) : LB p l e s m below meth c b D cy ax ay cells slots 628 [(0, .ref b), (1, .ref (ax 0)), (2, .ref (ay 0)), (3, .int (nI j))] [] MX MY := by
  obtain ⟨zx, hX, h⟩ := Option.bind_eq_some_iff.mp h
  obtain ⟨zy, hY, h⟩ := Option.bind_eq_some_iff.mp h
  cases h
  refine l_aload_n hO dL_law_628 1 rfl rfl ?_
  refine l_aload_n hO dL_law_629 0 rfl rfl ?_
  refine l_iload_n hO dL_law_630 3 rfl rfl ?_
  refine l_iconst hO dL_law_631 ic_i_1 ?_
  refine l_iadd hO dL_law_632 (v := nI (j + 1)) (nI_add j 1) ?_
  refine l_sld hO (n := j + 1) (by omega) (by omega) rfl dL_law_633 ?_
  refine l_aload_n hO dL_law_634 0 rfl rfl ?_
  refine l_iload_n hO dL_law_635 3 rfl rfl ?_
  refine l_iconst hO dL_law_636 ic_i_2 ?_
  refine l_iadd hO dL_law_637 (v := nI (j + 2)) (nI_add j 2) ?_
  refine l_sld hO (n := j + 2) (by omega) (by omega) rfl dL_law_638 ?_
  refine l_aload_n hO dL_law_639 0 rfl rfl ?_
  refine l_iload_n hO dL_law_640 3 rfl rfl ?_
  refine l_iconst hO dL_law_641 ic_i_3 ?_
  refine l_iadd hO dL_law_642 (v := nI (j + 3)) (nI_add j 3) ?_
  refine l_sld hO (n := j + 3) (by omega) (by omega) rfl dL_law_643 ?_
  refine l_callXL hO hX mdX11_odds mvX11_odds rfl w1031 (As := [.int _, .int _, .int _]) (st := []) (ctX11_odds n0 hO.2.2.2.2.2.2.1 _ _ _ _) (Nat.le_of_ble_eq_true rfl) rfl rfl (Nat.le_of_ble_eq_true rfl) hcs hsl dL_law_644 ?_
  refine l_pop2 hO dL_law_647 ?_
  refine l_aload_n hO dL_law_648 2 rfl rfl ?_
  refine l_aload_n hO dL_law_649 0 rfl rfl ?_
  refine l_iload_n hO dL_law_650 3 rfl rfl ?_
  refine l_iconst hO dL_law_651 ic_i_1 ?_
  refine l_iadd hO dL_law_652 (v := nI (j + 1)) (nI_add j 1) ?_
  refine l_sld hO (n := j + 1) (by omega) (by omega) rfl dL_law_653 ?_
  refine l_aload_n hO dL_law_654 0 rfl rfl ?_
  refine l_iload_n hO dL_law_655 3 rfl rfl ?_
  refine l_iconst hO dL_law_656 ic_i_2 ?_
  refine l_iadd hO dL_law_657 (v := nI (j + 2)) (nI_add j 2) ?_
  refine l_sld hO (n := j + 2) (by omega) (by omega) rfl dL_law_658 ?_
  refine l_aload_n hO dL_law_659 0 rfl rfl ?_
  refine l_iload_n hO dL_law_660 3 rfl rfl ?_
  refine l_iconst hO dL_law_661 ic_i_3 ?_
  refine l_iadd hO dL_law_662 (v := nI (j + 3)) (nI_add j 3) ?_
  refine l_sld hO (n := j + 3) (by omega) (by omega) rfl dL_law_663 ?_
  refine l_callYL hO hY mdX12_odds mvX12_odds rfl w1789 (As := [.int _, .int _, .int _]) (st := []) (ctX12_odds n0 hO.2.2.2.2.2.2.2.1 _ _ _ _) (Nat.le_of_ble_eq_true rfl) rfl rfl (Nat.le_of_ble_eq_true rfl) hcs hsl dL_law_664 ?_
  refine l_pop2 hO dL_law_667 ?_
  refine l_goto (pc := 668) hO dL_law_668 (tgt := 1072) (by decide) ?_
  exact K
def stp15 (n0 : Nat) (a : Nat → Int32) (MX MY : Mem) : Option (Mem × Mem) := (fX11_way n0 (a 1) (a 2) MX).bind fun zx => (fX12_way n0 (a 1) (a 2) MY).bind fun zy => some (zx.2, zy.2)
theorem cas15 (n0 : Nat) {j : Nat} (hO : OKl p s m meth c b L xs D cy ax ay) (hj : j + 6 ≤ L) (hL : L ≤ 3072) (hcs : cells ≤ 600000) (hsl : slots ≤ 7302250) {Z : Mem × Mem} (h : stp15 n0 (fun t => xs (j + t)) MX MY = some Z) (K : LB p l e s m below meth c b D cy ax ay cells slots 1072 [(0, .ref b), (1, .ref (ax 0)), (2, .ref (ay 0)), (3, .int (nI j))] [] Z.1 Z.2) : LB p l e s m below meth c b D cy ax ay cells slots 671 [(0, .ref b), (1, .ref (ax 0)), (2, .ref (ay 0)), (3, .int (nI j))] [] MX MY := by
  obtain ⟨zx, hX, h⟩ := Option.bind_eq_some_iff.mp h
  obtain ⟨zy, hY, h⟩ := Option.bind_eq_some_iff.mp h
  cases h
  refine l_aload_n hO dL_law_671 1 rfl rfl ?_
  refine l_aload_n hO dL_law_672 0 rfl rfl ?_
  refine l_iload_n hO dL_law_673 3 rfl rfl ?_
  refine l_iconst hO dL_law_674 ic_i_1 ?_
  refine l_iadd hO dL_law_675 (v := nI (j + 1)) (nI_add j 1) ?_
  refine l_sld hO (n := j + 1) (by omega) (by omega) rfl dL_law_676 ?_
  refine l_aload_n hO dL_law_677 0 rfl rfl ?_
  refine l_iload_n hO dL_law_678 3 rfl rfl ?_
  refine l_iconst hO dL_law_679 ic_i_2 ?_
  refine l_iadd hO dL_law_680 (v := nI (j + 2)) (nI_add j 2) ?_
  refine l_sld hO (n := j + 2) (by omega) (by omega) rfl dL_law_681 ?_
  refine l_callXI hO hX mdX11_way mvX11_way rfl w1050 (As := [.int _, .int _]) (st := []) (ctX11_way n0 hO.2.2.2.2.2.2.1 _ _ _) (Nat.le_of_ble_eq_true rfl) rfl rfl (Nat.le_of_ble_eq_true rfl) hcs hsl dL_law_682 ?_
  refine l_pop hO dL_law_685 ?_
  refine l_aload_n hO dL_law_686 2 rfl rfl ?_
  refine l_aload_n hO dL_law_687 0 rfl rfl ?_
  refine l_iload_n hO dL_law_688 3 rfl rfl ?_
  refine l_iconst hO dL_law_689 ic_i_1 ?_
  refine l_iadd hO dL_law_690 (v := nI (j + 1)) (nI_add j 1) ?_
  refine l_sld hO (n := j + 1) (by omega) (by omega) rfl dL_law_691 ?_
  refine l_aload_n hO dL_law_692 0 rfl rfl ?_
  refine l_iload_n hO dL_law_693 3 rfl rfl ?_
  refine l_iconst hO dL_law_694 ic_i_2 ?_
  refine l_iadd hO dL_law_695 (v := nI (j + 2)) (nI_add j 2) ?_
  refine l_sld hO (n := j + 2) (by omega) (by omega) rfl dL_law_696 ?_
  refine l_callYI hO hY mdX12_way mvX12_way rfl w1794 (As := [.int _, .int _]) (st := []) (ctX12_way n0 hO.2.2.2.2.2.2.2.1 _ _ _) (Nat.le_of_ble_eq_true rfl) rfl rfl (Nat.le_of_ble_eq_true rfl) hcs hsl dL_law_697 ?_
  refine l_pop hO dL_law_700 ?_
  refine l_goto (pc := 701) hO dL_law_701 (tgt := 1072) (by decide) ?_
  exact K
def stp16 (n0 : Nat) (a : Nat → Int32) (MX MY : Mem) : Option (Mem × Mem) := (fX11_arrive n0 (a 1) (a 2) MX).bind fun zx => (fX12_arrive n0 (a 1) (a 2) MY).bind fun zy => some (zx.2, zy.2)
theorem cas16 (n0 : Nat) {j : Nat} (hO : OKl p s m meth c b L xs D cy ax ay) (hj : j + 6 ≤ L) (hL : L ≤ 3072) (hcs : cells ≤ 600000) (hsl : slots ≤ 7302250) {Z : Mem × Mem} (h : stp16 n0 (fun t => xs (j + t)) MX MY = some Z) (K : LB p l e s m below meth c b D cy ax ay cells slots 1072 [(0, .ref b), (1, .ref (ax 0)), (2, .ref (ay 0)), (3, .int (nI j))] [] Z.1 Z.2) : LB p l e s m below meth c b D cy ax ay cells slots 704 [(0, .ref b), (1, .ref (ax 0)), (2, .ref (ay 0)), (3, .int (nI j))] [] MX MY := by
  obtain ⟨zx, hX, h⟩ := Option.bind_eq_some_iff.mp h
  obtain ⟨zy, hY, h⟩ := Option.bind_eq_some_iff.mp h
  cases h
  refine l_aload_n hO dL_law_704 1 rfl rfl ?_
  refine l_aload_n hO dL_law_705 0 rfl rfl ?_
  refine l_iload_n hO dL_law_706 3 rfl rfl ?_
  refine l_iconst hO dL_law_707 ic_i_1 ?_
  refine l_iadd hO dL_law_708 (v := nI (j + 1)) (nI_add j 1) ?_
  refine l_sld hO (n := j + 1) (by omega) (by omega) rfl dL_law_709 ?_
  refine l_aload_n hO dL_law_710 0 rfl rfl ?_
  refine l_iload_n hO dL_law_711 3 rfl rfl ?_
  refine l_iconst hO dL_law_712 ic_i_2 ?_
  refine l_iadd hO dL_law_713 (v := nI (j + 2)) (nI_add j 2) ?_
  refine l_sld hO (n := j + 2) (by omega) (by omega) rfl dL_law_714 ?_
  refine l_callXI hO hX mdX11_arrive mvX11_arrive rfl w1065 (As := [.int _, .int _]) (st := []) (ctX11_arrive n0 hO.2.2.2.2.2.2.1 _ _ _) (Nat.le_of_ble_eq_true rfl) rfl rfl (Nat.le_of_ble_eq_true rfl) hcs hsl dL_law_715 ?_
  refine l_pop hO dL_law_718 ?_
  refine l_aload_n hO dL_law_719 2 rfl rfl ?_
  refine l_aload_n hO dL_law_720 0 rfl rfl ?_
  refine l_iload_n hO dL_law_721 3 rfl rfl ?_
  refine l_iconst hO dL_law_722 ic_i_1 ?_
  refine l_iadd hO dL_law_723 (v := nI (j + 1)) (nI_add j 1) ?_
  refine l_sld hO (n := j + 1) (by omega) (by omega) rfl dL_law_724 ?_
  refine l_aload_n hO dL_law_725 0 rfl rfl ?_
  refine l_iload_n hO dL_law_726 3 rfl rfl ?_
  refine l_iconst hO dL_law_727 ic_i_2 ?_
  refine l_iadd hO dL_law_728 (v := nI (j + 2)) (nI_add j 2) ?_
  refine l_sld hO (n := j + 2) (by omega) (by omega) rfl dL_law_729 ?_
  refine l_callYI hO hY mdX12_arrive mvX12_arrive rfl w1798 (As := [.int _, .int _]) (st := []) (ctX12_arrive n0 hO.2.2.2.2.2.2.2.1 _ _ _) (Nat.le_of_ble_eq_true rfl) rfl rfl (Nat.le_of_ble_eq_true rfl) hcs hsl dL_law_730 ?_
  refine l_pop hO dL_law_733 ?_
  refine l_goto (pc := 734) hO dL_law_734 (tgt := 1072) (by decide) ?_
  exact K
def stp17 (n0 : Nat) (a : Nat → Int32) (MX MY : Mem) : Option (Mem × Mem) := (fX11_early n0 (a 1) MX).bind fun zx => (fX12_early n0 (a 1) MY).bind fun zy => some (zx.2, zy.2)
theorem cas17 (n0 : Nat) {j : Nat} (hO : OKl p s m meth c b L xs D cy ax ay) (hj : j + 6 ≤ L) (hL : L ≤ 3072) (hcs : cells ≤ 600000) (hsl : slots ≤ 7302250) {Z : Mem × Mem} (h : stp17 n0 (fun t => xs (j + t)) MX MY = some Z) (K : LB p l e s m below meth c b D cy ax ay cells slots 1072 [(0, .ref b), (1, .ref (ax 0)), (2, .ref (ay 0)), (3, .int (nI j))] [] Z.1 Z.2) : LB p l e s m below meth c b D cy ax ay cells slots 737 [(0, .ref b), (1, .ref (ax 0)), (2, .ref (ay 0)), (3, .int (nI j))] [] MX MY := by
  obtain ⟨zx, hX, h⟩ := Option.bind_eq_some_iff.mp h
  obtain ⟨zy, hY, h⟩ := Option.bind_eq_some_iff.mp h
  cases h
  refine l_aload_n hO dL_law_737 1 rfl rfl ?_
  refine l_aload_n hO dL_law_738 0 rfl rfl ?_
  refine l_iload_n hO dL_law_739 3 rfl rfl ?_
  refine l_iconst hO dL_law_740 ic_i_1 ?_
  refine l_iadd hO dL_law_741 (v := nI (j + 1)) (nI_add j 1) ?_
  refine l_sld hO (n := j + 1) (by omega) (by omega) rfl dL_law_742 ?_
  refine l_callXI hO hX mdX11_early mvX11_early rfl w1069 (As := [.int _]) (st := []) (ctX11_early n0 hO.2.2.2.2.2.2.1 _ _) (Nat.le_of_ble_eq_true rfl) rfl rfl (Nat.le_of_ble_eq_true rfl) hcs hsl dL_law_743 ?_
  refine l_pop hO dL_law_746 ?_
  refine l_aload_n hO dL_law_747 2 rfl rfl ?_
  refine l_aload_n hO dL_law_748 0 rfl rfl ?_
  refine l_iload_n hO dL_law_749 3 rfl rfl ?_
  refine l_iconst hO dL_law_750 ic_i_1 ?_
  refine l_iadd hO dL_law_751 (v := nI (j + 1)) (nI_add j 1) ?_
  refine l_sld hO (n := j + 1) (by omega) (by omega) rfl dL_law_752 ?_
  refine l_callYI hO hY mdX12_early mvX12_early rfl w1804 (As := [.int _]) (st := []) (ctX12_early n0 hO.2.2.2.2.2.2.2.1 _ _) (Nat.le_of_ble_eq_true rfl) rfl rfl (Nat.le_of_ble_eq_true rfl) hcs hsl dL_law_753 ?_
  refine l_pop hO dL_law_756 ?_
  refine l_goto (pc := 757) hO dL_law_757 (tgt := 1072) (by decide) ?_
  exact K
def stp18 (n0 : Nat) (a : Nat → Int32) (MX MY : Mem) : Option (Mem × Mem) := (fX11_see n0 MX).bind fun zx => (fX12_see n0 MY).bind fun zy => some (zx.2, zy.2)
theorem cas18 (n0 : Nat) {j : Nat} (hO : OKl p s m meth c b L xs D cy ax ay) (hj : j + 6 ≤ L) (hL : L ≤ 3072) (hcs : cells ≤ 600000) (hsl : slots ≤ 7302250) {Z : Mem × Mem} (h : stp18 n0 (fun t => xs (j + t)) MX MY = some Z) (K : LB p l e s m below meth c b D cy ax ay cells slots 1072 [(0, .ref b), (1, .ref (ax 0)), (2, .ref (ay 0)), (3, .int (nI j))] [] Z.1 Z.2) : LB p l e s m below meth c b D cy ax ay cells slots 760 [(0, .ref b), (1, .ref (ax 0)), (2, .ref (ay 0)), (3, .int (nI j))] [] MX MY := by
  obtain ⟨zx, hX, h⟩ := Option.bind_eq_some_iff.mp h
  obtain ⟨zy, hY, h⟩ := Option.bind_eq_some_iff.mp h
  cases h
  refine l_aload_n hO dL_law_760 1 rfl rfl ?_
  refine l_callXI hO hX mdX11_see mvX11_see rfl w1084 (As := []) (st := []) (ctX11_see n0 hO.2.2.2.2.2.2.1 _) (Nat.le_of_ble_eq_true rfl) rfl rfl (Nat.le_of_ble_eq_true rfl) hcs hsl dL_law_761 ?_
  refine l_pop hO dL_law_764 ?_
  refine l_aload_n hO dL_law_765 2 rfl rfl ?_
  refine l_callYI hO hY mdX12_see mvX12_see rfl w1808 (As := []) (st := []) (ctX12_see n0 hO.2.2.2.2.2.2.2.1 _) (Nat.le_of_ble_eq_true rfl) rfl rfl (Nat.le_of_ble_eq_true rfl) hcs hsl dL_law_766 ?_
  refine l_pop hO dL_law_769 ?_
  refine l_goto (pc := 770) hO dL_law_770 (tgt := 1072) (by decide) ?_
  exact K
def stp19 (n0 : Nat) (a : Nat → Int32) (MX MY : Mem) : Option (Mem × Mem) := (fX11_held n0 (a 1) MX).bind fun zx => (fX12_held n0 (a 1) MY).bind fun zy => some (zx.2, zy.2)
theorem cas19 (n0 : Nat) {j : Nat} (hO : OKl p s m meth c b L xs D cy ax ay) (hj : j + 6 ≤ L) (hL : L ≤ 3072) (hcs : cells ≤ 600000) (hsl : slots ≤ 7302250) {Z : Mem × Mem} (h : stp19 n0 (fun t => xs (j + t)) MX MY = some Z) (K : LB p l e s m below meth c b D cy ax ay cells slots 1072 [(0, .ref b), (1, .ref (ax 0)), (2, .ref (ay 0)), (3, .int (nI j))] [] Z.1 Z.2) : LB p l e s m below meth c b D cy ax ay cells slots 773 [(0, .ref b), (1, .ref (ax 0)), (2, .ref (ay 0)), (3, .int (nI j))] [] MX MY := by
  obtain ⟨zx, hX, h⟩ := Option.bind_eq_some_iff.mp h
  obtain ⟨zy, hY, h⟩ := Option.bind_eq_some_iff.mp h
  cases h
  refine l_aload_n hO dL_law_773 1 rfl rfl ?_
  refine l_aload_n hO dL_law_774 0 rfl rfl ?_
  refine l_iload_n hO dL_law_775 3 rfl rfl ?_
  refine l_iconst hO dL_law_776 ic_i_1 ?_
  refine l_iadd hO dL_law_777 (v := nI (j + 1)) (nI_add j 1) ?_
  refine l_sld hO (n := j + 1) (by omega) (by omega) rfl dL_law_778 ?_
  refine l_callXI hO hX mdX11_held mvX11_held rfl w1094 (As := [.int _]) (st := []) (ctX11_held n0 hO.2.2.2.2.2.2.1 _ _) (Nat.le_of_ble_eq_true rfl) rfl rfl (Nat.le_of_ble_eq_true rfl) hcs hsl dL_law_779 ?_
  refine l_pop hO dL_law_782 ?_
  refine l_aload_n hO dL_law_783 2 rfl rfl ?_
  refine l_aload_n hO dL_law_784 0 rfl rfl ?_
  refine l_iload_n hO dL_law_785 3 rfl rfl ?_
  refine l_iconst hO dL_law_786 ic_i_1 ?_
  refine l_iadd hO dL_law_787 (v := nI (j + 1)) (nI_add j 1) ?_
  refine l_sld hO (n := j + 1) (by omega) (by omega) rfl dL_law_788 ?_
  refine l_callYI hO hY mdX12_held mvX12_held rfl w1812 (As := [.int _]) (st := []) (ctX12_held n0 hO.2.2.2.2.2.2.2.1 _ _) (Nat.le_of_ble_eq_true rfl) rfl rfl (Nat.le_of_ble_eq_true rfl) hcs hsl dL_law_789 ?_
  refine l_pop hO dL_law_792 ?_
  refine l_goto (pc := 793) hO dL_law_793 (tgt := 1072) (by decide) ?_
  exact K
def stp20 (n0 : Nat) (a : Nat → Int32) (MX MY : Mem) : Option (Mem × Mem) := (fX11_tells n0 (a 1) (a 2) MX).bind fun zx => (fX12_tells n0 (a 1) (a 2) MY).bind fun zy => some (zx.2, zy.2)
theorem cas20 (n0 : Nat) {j : Nat} (hO : OKl p s m meth c b L xs D cy ax ay) (hj : j + 6 ≤ L) (hL : L ≤ 3072) (hcs : cells ≤ 600000) (hsl : slots ≤ 7302250) {Z : Mem × Mem} (h : stp20 n0 (fun t => xs (j + t)) MX MY = some Z) (K : LB p l e s m below meth c b D cy ax ay cells slots 1072 [(0, .ref b), (1, .ref (ax 0)), (2, .ref (ay 0)), (3, .int (nI j))] [] Z.1 Z.2) : LB p l e s m below meth c b D cy ax ay cells slots 796 [(0, .ref b), (1, .ref (ax 0)), (2, .ref (ay 0)), (3, .int (nI j))] [] MX MY := by
  obtain ⟨zx, hX, h⟩ := Option.bind_eq_some_iff.mp h
  obtain ⟨zy, hY, h⟩ := Option.bind_eq_some_iff.mp h
  cases h
  refine l_aload_n hO dL_law_796 1 rfl rfl ?_
  refine l_aload_n hO dL_law_797 0 rfl rfl ?_
  refine l_iload_n hO dL_law_798 3 rfl rfl ?_
  refine l_iconst hO dL_law_799 ic_i_1 ?_
  refine l_iadd hO dL_law_800 (v := nI (j + 1)) (nI_add j 1) ?_
  refine l_sld hO (n := j + 1) (by omega) (by omega) rfl dL_law_801 ?_
  refine l_aload_n hO dL_law_802 0 rfl rfl ?_
  refine l_iload_n hO dL_law_803 3 rfl rfl ?_
  refine l_iconst hO dL_law_804 ic_i_2 ?_
  refine l_iadd hO dL_law_805 (v := nI (j + 2)) (nI_add j 2) ?_
  refine l_sld hO (n := j + 2) (by omega) (by omega) rfl dL_law_806 ?_
  refine l_callXI hO hX mdX11_tells mvX11_tells rfl w1114 (As := [.int _, .int _]) (st := []) (ctX11_tells n0 hO.2.2.2.2.2.2.1 _ _ _) (Nat.le_of_ble_eq_true rfl) rfl rfl (Nat.le_of_ble_eq_true rfl) hcs hsl dL_law_807 ?_
  refine l_pop hO dL_law_810 ?_
  refine l_aload_n hO dL_law_811 2 rfl rfl ?_
  refine l_aload_n hO dL_law_812 0 rfl rfl ?_
  refine l_iload_n hO dL_law_813 3 rfl rfl ?_
  refine l_iconst hO dL_law_814 ic_i_1 ?_
  refine l_iadd hO dL_law_815 (v := nI (j + 1)) (nI_add j 1) ?_
  refine l_sld hO (n := j + 1) (by omega) (by omega) rfl dL_law_816 ?_
  refine l_aload_n hO dL_law_817 0 rfl rfl ?_
  refine l_iload_n hO dL_law_818 3 rfl rfl ?_
  refine l_iconst hO dL_law_819 ic_i_2 ?_
  refine l_iadd hO dL_law_820 (v := nI (j + 2)) (nI_add j 2) ?_
  refine l_sld hO (n := j + 2) (by omega) (by omega) rfl dL_law_821 ?_
  refine l_callYI hO hY mdX12_tells mvX12_tells rfl w1820 (As := [.int _, .int _]) (st := []) (ctX12_tells n0 hO.2.2.2.2.2.2.2.1 _ _ _) (Nat.le_of_ble_eq_true rfl) rfl rfl (Nat.le_of_ble_eq_true rfl) hcs hsl dL_law_822 ?_
  refine l_pop hO dL_law_825 ?_
  refine l_goto (pc := 826) hO dL_law_826 (tgt := 1072) (by decide) ?_
  exact K
def stp21 (n0 : Nat) (a : Nat → Int32) (MX MY : Mem) : Option (Mem × Mem) := (fX11_minutes n0 (a 1) MX).bind fun zx => (fX12_minutes n0 (a 1) MY).bind fun zy => some (zx.2, zy.2)
theorem cas21 (n0 : Nat) {j : Nat} (hO : OKl p s m meth c b L xs D cy ax ay) (hj : j + 6 ≤ L) (hL : L ≤ 3072) (hcs : cells ≤ 600000) (hsl : slots ≤ 7302250) {Z : Mem × Mem} (h : stp21 n0 (fun t => xs (j + t)) MX MY = some Z) (K : LB p l e s m below meth c b D cy ax ay cells slots 1072 [(0, .ref b), (1, .ref (ax 0)), (2, .ref (ay 0)), (3, .int (nI j))] [] Z.1 Z.2) : LB p l e s m below meth c b D cy ax ay cells slots 829 [(0, .ref b), (1, .ref (ax 0)), (2, .ref (ay 0)), (3, .int (nI j))] [] MX MY := by
  obtain ⟨zx, hX, h⟩ := Option.bind_eq_some_iff.mp h
  obtain ⟨zy, hY, h⟩ := Option.bind_eq_some_iff.mp h
  cases h
  refine l_aload_n hO dL_law_829 1 rfl rfl ?_
  refine l_aload_n hO dL_law_830 0 rfl rfl ?_
  refine l_iload_n hO dL_law_831 3 rfl rfl ?_
  refine l_iconst hO dL_law_832 ic_i_1 ?_
  refine l_iadd hO dL_law_833 (v := nI (j + 1)) (nI_add j 1) ?_
  refine l_sld hO (n := j + 1) (by omega) (by omega) rfl dL_law_834 ?_
  refine l_callXI hO hX mdX11_minutes mvX11_minutes rfl w1124 (As := [.int _]) (st := []) (ctX11_minutes n0 hO.2.2.2.2.2.2.1 _ _) (Nat.le_of_ble_eq_true rfl) rfl rfl (Nat.le_of_ble_eq_true rfl) hcs hsl dL_law_835 ?_
  refine l_pop hO dL_law_838 ?_
  refine l_aload_n hO dL_law_839 2 rfl rfl ?_
  refine l_aload_n hO dL_law_840 0 rfl rfl ?_
  refine l_iload_n hO dL_law_841 3 rfl rfl ?_
  refine l_iconst hO dL_law_842 ic_i_1 ?_
  refine l_iadd hO dL_law_843 (v := nI (j + 1)) (nI_add j 1) ?_
  refine l_sld hO (n := j + 1) (by omega) (by omega) rfl dL_law_844 ?_
  refine l_callYI hO hY mdX12_minutes mvX12_minutes rfl w1824 (As := [.int _]) (st := []) (ctX12_minutes n0 hO.2.2.2.2.2.2.2.1 _ _) (Nat.le_of_ble_eq_true rfl) rfl rfl (Nat.le_of_ble_eq_true rfl) hcs hsl dL_law_845 ?_
  refine l_pop hO dL_law_848 ?_
  refine l_goto (pc := 849) hO dL_law_849 (tgt := 1072) (by decide) ?_
  exact K
def stp22 (n0 : Nat) (a : Nat → Int32) (MX MY : Mem) : Option (Mem × Mem) := (fX11_chance n0 (a 1) MX).bind fun zx => (fX12_chance n0 (a 1) MY).bind fun zy => some (zx.2, zy.2)
theorem cas22 (n0 : Nat) {j : Nat} (hO : OKl p s m meth c b L xs D cy ax ay) (hj : j + 6 ≤ L) (hL : L ≤ 3072) (hcs : cells ≤ 600000) (hsl : slots ≤ 7302250) {Z : Mem × Mem} (h : stp22 n0 (fun t => xs (j + t)) MX MY = some Z) (K : LB p l e s m below meth c b D cy ax ay cells slots 1072 [(0, .ref b), (1, .ref (ax 0)), (2, .ref (ay 0)), (3, .int (nI j))] [] Z.1 Z.2) : LB p l e s m below meth c b D cy ax ay cells slots 852 [(0, .ref b), (1, .ref (ax 0)), (2, .ref (ay 0)), (3, .int (nI j))] [] MX MY := by
  obtain ⟨zx, hX, h⟩ := Option.bind_eq_some_iff.mp h
  obtain ⟨zy, hY, h⟩ := Option.bind_eq_some_iff.mp h
  cases h
  refine l_aload_n hO dL_law_852 1 rfl rfl ?_
  refine l_aload_n hO dL_law_853 0 rfl rfl ?_
  refine l_iload_n hO dL_law_854 3 rfl rfl ?_
  refine l_iconst hO dL_law_855 ic_i_1 ?_
  refine l_iadd hO dL_law_856 (v := nI (j + 1)) (nI_add j 1) ?_
  refine l_sld hO (n := j + 1) (by omega) (by omega) rfl dL_law_857 ?_
  refine l_callXI hO hX mdX11_chance mvX11_chance rfl w1146 (As := [.int _]) (st := []) (ctX11_chance n0 hO.2.2.2.2.2.2.1 _ _) (Nat.le_of_ble_eq_true rfl) rfl rfl (Nat.le_of_ble_eq_true rfl) hcs hsl dL_law_858 ?_
  refine l_pop hO dL_law_861 ?_
  refine l_aload_n hO dL_law_862 2 rfl rfl ?_
  refine l_aload_n hO dL_law_863 0 rfl rfl ?_
  refine l_iload_n hO dL_law_864 3 rfl rfl ?_
  refine l_iconst hO dL_law_865 ic_i_1 ?_
  refine l_iadd hO dL_law_866 (v := nI (j + 1)) (nI_add j 1) ?_
  refine l_sld hO (n := j + 1) (by omega) (by omega) rfl dL_law_867 ?_
  refine l_callYI hO hY mdX12_chance mvX12_chance rfl w1832 (As := [.int _]) (st := []) (ctX12_chance n0 hO.2.2.2.2.2.2.2.1 _ _) (Nat.le_of_ble_eq_true rfl) rfl rfl (Nat.le_of_ble_eq_true rfl) hcs hsl dL_law_868 ?_
  refine l_pop hO dL_law_871 ?_
  refine l_goto (pc := 872) hO dL_law_872 (tgt := 1072) (by decide) ?_
  exact K
def stp23 (n0 : Nat) (a : Nat → Int32) (MX MY : Mem) : Option (Mem × Mem) := (fX11_give n0 (a 1) (a 2) MX).bind fun zx => (fX12_give n0 (a 1) (a 2) MY).bind fun zy => some (zx.2, zy.2)
theorem cas23 (n0 : Nat) {j : Nat} (hO : OKl p s m meth c b L xs D cy ax ay) (hj : j + 6 ≤ L) (hL : L ≤ 3072) (hcs : cells ≤ 600000) (hsl : slots ≤ 7302250) {Z : Mem × Mem} (h : stp23 n0 (fun t => xs (j + t)) MX MY = some Z) (K : LB p l e s m below meth c b D cy ax ay cells slots 1072 [(0, .ref b), (1, .ref (ax 0)), (2, .ref (ay 0)), (3, .int (nI j))] [] Z.1 Z.2) : LB p l e s m below meth c b D cy ax ay cells slots 875 [(0, .ref b), (1, .ref (ax 0)), (2, .ref (ay 0)), (3, .int (nI j))] [] MX MY := by
  obtain ⟨zx, hX, h⟩ := Option.bind_eq_some_iff.mp h
  obtain ⟨zy, hY, h⟩ := Option.bind_eq_some_iff.mp h
  cases h
  refine l_aload_n hO dL_law_875 1 rfl rfl ?_
  refine l_aload_n hO dL_law_876 0 rfl rfl ?_
  refine l_iload_n hO dL_law_877 3 rfl rfl ?_
  refine l_iconst hO dL_law_878 ic_i_1 ?_
  refine l_iadd hO dL_law_879 (v := nI (j + 1)) (nI_add j 1) ?_
  refine l_sld hO (n := j + 1) (by omega) (by omega) rfl dL_law_880 ?_
  refine l_aload_n hO dL_law_881 0 rfl rfl ?_
  refine l_iload_n hO dL_law_882 3 rfl rfl ?_
  refine l_iconst hO dL_law_883 ic_i_2 ?_
  refine l_iadd hO dL_law_884 (v := nI (j + 2)) (nI_add j 2) ?_
  refine l_sld hO (n := j + 2) (by omega) (by omega) rfl dL_law_885 ?_
  refine l_callXI hO hX mdX11_give mvX11_give rfl w1162 (As := [.int _, .int _]) (st := []) (ctX11_give n0 hO.2.2.2.2.2.2.1 _ _ _) (Nat.le_of_ble_eq_true rfl) rfl rfl (Nat.le_of_ble_eq_true rfl) hcs hsl dL_law_886 ?_
  refine l_pop hO dL_law_889 ?_
  refine l_aload_n hO dL_law_890 2 rfl rfl ?_
  refine l_aload_n hO dL_law_891 0 rfl rfl ?_
  refine l_iload_n hO dL_law_892 3 rfl rfl ?_
  refine l_iconst hO dL_law_893 ic_i_1 ?_
  refine l_iadd hO dL_law_894 (v := nI (j + 1)) (nI_add j 1) ?_
  refine l_sld hO (n := j + 1) (by omega) (by omega) rfl dL_law_895 ?_
  refine l_aload_n hO dL_law_896 0 rfl rfl ?_
  refine l_iload_n hO dL_law_897 3 rfl rfl ?_
  refine l_iconst hO dL_law_898 ic_i_2 ?_
  refine l_iadd hO dL_law_899 (v := nI (j + 2)) (nI_add j 2) ?_
  refine l_sld hO (n := j + 2) (by omega) (by omega) rfl dL_law_900 ?_
  refine l_callYI hO hY mdX12_give mvX12_give rfl w1844 (As := [.int _, .int _]) (st := []) (ctX12_give n0 hO.2.2.2.2.2.2.2.1 _ _ _) (Nat.le_of_ble_eq_true rfl) rfl rfl (Nat.le_of_ble_eq_true rfl) hcs hsl dL_law_901 ?_
  refine l_pop hO dL_law_904 ?_
  refine l_goto (pc := 905) hO dL_law_905 (tgt := 1072) (by decide) ?_
  exact K
def stp24 (n0 : Nat) (a : Nat → Int32) (MX MY : Mem) : Option (Mem × Mem) := (fX11_take n0 (a 1) MX).bind fun zx => (fX12_take n0 (a 1) MY).bind fun zy => some (zx.2, zy.2)
theorem cas24 (n0 : Nat) {j : Nat} (hO : OKl p s m meth c b L xs D cy ax ay) (hj : j + 6 ≤ L) (hL : L ≤ 3072) (hcs : cells ≤ 600000) (hsl : slots ≤ 7302250) {Z : Mem × Mem} (h : stp24 n0 (fun t => xs (j + t)) MX MY = some Z) (K : LB p l e s m below meth c b D cy ax ay cells slots 1072 [(0, .ref b), (1, .ref (ax 0)), (2, .ref (ay 0)), (3, .int (nI j))] [] Z.1 Z.2) : LB p l e s m below meth c b D cy ax ay cells slots 908 [(0, .ref b), (1, .ref (ax 0)), (2, .ref (ay 0)), (3, .int (nI j))] [] MX MY := by
  obtain ⟨zx, hX, h⟩ := Option.bind_eq_some_iff.mp h
  obtain ⟨zy, hY, h⟩ := Option.bind_eq_some_iff.mp h
  cases h
  refine l_aload_n hO dL_law_908 1 rfl rfl ?_
  refine l_aload_n hO dL_law_909 0 rfl rfl ?_
  refine l_iload_n hO dL_law_910 3 rfl rfl ?_
  refine l_iconst hO dL_law_911 ic_i_1 ?_
  refine l_iadd hO dL_law_912 (v := nI (j + 1)) (nI_add j 1) ?_
  refine l_sld hO (n := j + 1) (by omega) (by omega) rfl dL_law_913 ?_
  refine l_callXI hO hX mdX11_take mvX11_take rfl w1170 (As := [.int _]) (st := []) (ctX11_take n0 hO.2.2.2.2.2.2.1 _ _) (Nat.le_of_ble_eq_true rfl) rfl rfl (Nat.le_of_ble_eq_true rfl) hcs hsl dL_law_914 ?_
  refine l_pop hO dL_law_917 ?_
  refine l_aload_n hO dL_law_918 2 rfl rfl ?_
  refine l_aload_n hO dL_law_919 0 rfl rfl ?_
  refine l_iload_n hO dL_law_920 3 rfl rfl ?_
  refine l_iconst hO dL_law_921 ic_i_1 ?_
  refine l_iadd hO dL_law_922 (v := nI (j + 1)) (nI_add j 1) ?_
  refine l_sld hO (n := j + 1) (by omega) (by omega) rfl dL_law_923 ?_
  refine l_callYI hO hY mdX12_take mvX12_take rfl w1848 (As := [.int _]) (st := []) (ctX12_take n0 hO.2.2.2.2.2.2.2.1 _ _) (Nat.le_of_ble_eq_true rfl) rfl rfl (Nat.le_of_ble_eq_true rfl) hcs hsl dL_law_924 ?_
  refine l_pop hO dL_law_927 ?_
  refine l_goto (pc := 928) hO dL_law_928 (tgt := 1072) (by decide) ?_
  exact K
def stp25 (n0 : Nat) (a : Nat → Int32) (MX MY : Mem) : Option (Mem × Mem) := (fX11_undo n0 MX).bind fun zx => (fX12_undo n0 MY).bind fun zy => some (zx.2, zy.2)
theorem cas25 (n0 : Nat) {j : Nat} (hO : OKl p s m meth c b L xs D cy ax ay) (hj : j + 6 ≤ L) (hL : L ≤ 3072) (hcs : cells ≤ 600000) (hsl : slots ≤ 7302250) {Z : Mem × Mem} (h : stp25 n0 (fun t => xs (j + t)) MX MY = some Z) (K : LB p l e s m below meth c b D cy ax ay cells slots 1072 [(0, .ref b), (1, .ref (ax 0)), (2, .ref (ay 0)), (3, .int (nI j))] [] Z.1 Z.2) : LB p l e s m below meth c b D cy ax ay cells slots 931 [(0, .ref b), (1, .ref (ax 0)), (2, .ref (ay 0)), (3, .int (nI j))] [] MX MY := by
  obtain ⟨zx, hX, h⟩ := Option.bind_eq_some_iff.mp h
  obtain ⟨zy, hY, h⟩ := Option.bind_eq_some_iff.mp h
  cases h
  refine l_aload_n hO dL_law_931 1 rfl rfl ?_
  refine l_callXI hO hX mdX11_undo mvX11_undo rfl w1174 (As := []) (st := []) (ctX11_undo n0 hO.2.2.2.2.2.2.1 _) (Nat.le_of_ble_eq_true rfl) rfl rfl (Nat.le_of_ble_eq_true rfl) hcs hsl dL_law_932 ?_
  refine l_pop hO dL_law_935 ?_
  refine l_aload_n hO dL_law_936 2 rfl rfl ?_
  refine l_callYI hO hY mdX12_undo mvX12_undo rfl w1697 (As := []) (st := []) (ctX12_undo n0 hO.2.2.2.2.2.2.2.1 _) (Nat.le_of_ble_eq_true rfl) rfl rfl (Nat.le_of_ble_eq_true rfl) hcs hsl dL_law_937 ?_
  refine l_pop hO dL_law_940 ?_
  refine l_goto (pc := 941) hO dL_law_941 (tgt := 1072) (by decide) ?_
  exact K
def stp26 (n0 : Nat) (a : Nat → Int32) (MX MY : Mem) : Option (Mem × Mem) := (fX11_seed n0 (a 1) MX).bind fun zx => (fX12_seed n0 (a 1) MY).bind fun zy => some (zx.2, zy.2)
theorem cas26 (n0 : Nat) {j : Nat} (hO : OKl p s m meth c b L xs D cy ax ay) (hj : j + 6 ≤ L) (hL : L ≤ 3072) (hcs : cells ≤ 600000) (hsl : slots ≤ 7302250) {Z : Mem × Mem} (h : stp26 n0 (fun t => xs (j + t)) MX MY = some Z) (K : LB p l e s m below meth c b D cy ax ay cells slots 1072 [(0, .ref b), (1, .ref (ax 0)), (2, .ref (ay 0)), (3, .int (nI j))] [] Z.1 Z.2) : LB p l e s m below meth c b D cy ax ay cells slots 944 [(0, .ref b), (1, .ref (ax 0)), (2, .ref (ay 0)), (3, .int (nI j))] [] MX MY := by
  obtain ⟨zx, hX, h⟩ := Option.bind_eq_some_iff.mp h
  obtain ⟨zy, hY, h⟩ := Option.bind_eq_some_iff.mp h
  cases h
  refine l_aload_n hO dL_law_944 1 rfl rfl ?_
  refine l_aload_n hO dL_law_945 0 rfl rfl ?_
  refine l_iload_n hO dL_law_946 3 rfl rfl ?_
  refine l_iconst hO dL_law_947 ic_i_1 ?_
  refine l_iadd hO dL_law_948 (v := nI (j + 1)) (nI_add j 1) ?_
  refine l_sld hO (n := j + 1) (by omega) (by omega) rfl dL_law_949 ?_
  refine l_callXI hO hX mdX11_seed mvX11_seed rfl w1186 (As := [.int _]) (st := []) (ctX11_seed n0 hO.2.2.2.2.2.2.1 _ _) (Nat.le_of_ble_eq_true rfl) rfl rfl (Nat.le_of_ble_eq_true rfl) hcs hsl dL_law_950 ?_
  refine l_pop hO dL_law_953 ?_
  refine l_aload_n hO dL_law_954 2 rfl rfl ?_
  refine l_aload_n hO dL_law_955 0 rfl rfl ?_
  refine l_iload_n hO dL_law_956 3 rfl rfl ?_
  refine l_iconst hO dL_law_957 ic_i_1 ?_
  refine l_iadd hO dL_law_958 (v := nI (j + 1)) (nI_add j 1) ?_
  refine l_sld hO (n := j + 1) (by omega) (by omega) rfl dL_law_959 ?_
  refine l_callYI hO hY mdX12_seed mvX12_seed rfl w1852 (As := [.int _]) (st := []) (ctX12_seed n0 hO.2.2.2.2.2.2.2.1 _ _) (Nat.le_of_ble_eq_true rfl) rfl rfl (Nat.le_of_ble_eq_true rfl) hcs hsl dL_law_960 ?_
  refine l_pop hO dL_law_963 ?_
  refine l_goto (pc := 964) hO dL_law_964 (tgt := 1072) (by decide) ?_
  exact K
def stp27 (n0 : Nat) (a : Nat → Int32) (MX MY : Mem) : Option (Mem × Mem) := (fX11_kept n0 (a 1) (a 2) MX).bind fun zx => (fX12_kept n0 (a 1) (a 2) MY).bind fun zy => some (zx.2, zy.2)
theorem cas27 (n0 : Nat) {j : Nat} (hO : OKl p s m meth c b L xs D cy ax ay) (hj : j + 6 ≤ L) (hL : L ≤ 3072) (hcs : cells ≤ 600000) (hsl : slots ≤ 7302250) {Z : Mem × Mem} (h : stp27 n0 (fun t => xs (j + t)) MX MY = some Z) (K : LB p l e s m below meth c b D cy ax ay cells slots 1072 [(0, .ref b), (1, .ref (ax 0)), (2, .ref (ay 0)), (3, .int (nI j))] [] Z.1 Z.2) : LB p l e s m below meth c b D cy ax ay cells slots 967 [(0, .ref b), (1, .ref (ax 0)), (2, .ref (ay 0)), (3, .int (nI j))] [] MX MY := by
  obtain ⟨zx, hX, h⟩ := Option.bind_eq_some_iff.mp h
  obtain ⟨zy, hY, h⟩ := Option.bind_eq_some_iff.mp h
  cases h
  refine l_aload_n hO dL_law_967 1 rfl rfl ?_
  refine l_aload_n hO dL_law_968 0 rfl rfl ?_
  refine l_iload_n hO dL_law_969 3 rfl rfl ?_
  refine l_iconst hO dL_law_970 ic_i_1 ?_
  refine l_iadd hO dL_law_971 (v := nI (j + 1)) (nI_add j 1) ?_
  refine l_sld hO (n := j + 1) (by omega) (by omega) rfl dL_law_972 ?_
  refine l_aload_n hO dL_law_973 0 rfl rfl ?_
  refine l_iload_n hO dL_law_974 3 rfl rfl ?_
  refine l_iconst hO dL_law_975 ic_i_2 ?_
  refine l_iadd hO dL_law_976 (v := nI (j + 2)) (nI_add j 2) ?_
  refine l_sld hO (n := j + 2) (by omega) (by omega) rfl dL_law_977 ?_
  refine l_callXI hO hX mdX11_kept mvX11_kept rfl w1190 (As := [.int _, .int _]) (st := []) (ctX11_kept n0 hO.2.2.2.2.2.2.1 _ _ _) (Nat.le_of_ble_eq_true rfl) rfl rfl (Nat.le_of_ble_eq_true rfl) hcs hsl dL_law_978 ?_
  refine l_pop hO dL_law_981 ?_
  refine l_aload_n hO dL_law_982 2 rfl rfl ?_
  refine l_aload_n hO dL_law_983 0 rfl rfl ?_
  refine l_iload_n hO dL_law_984 3 rfl rfl ?_
  refine l_iconst hO dL_law_985 ic_i_1 ?_
  refine l_iadd hO dL_law_986 (v := nI (j + 1)) (nI_add j 1) ?_
  refine l_sld hO (n := j + 1) (by omega) (by omega) rfl dL_law_987 ?_
  refine l_aload_n hO dL_law_988 0 rfl rfl ?_
  refine l_iload_n hO dL_law_989 3 rfl rfl ?_
  refine l_iconst hO dL_law_990 ic_i_2 ?_
  refine l_iadd hO dL_law_991 (v := nI (j + 2)) (nI_add j 2) ?_
  refine l_sld hO (n := j + 2) (by omega) (by omega) rfl dL_law_992 ?_
  refine l_callYI hO hY mdX12_kept mvX12_kept rfl w1856 (As := [.int _, .int _]) (st := []) (ctX12_kept n0 hO.2.2.2.2.2.2.2.1 _ _ _) (Nat.le_of_ble_eq_true rfl) rfl rfl (Nat.le_of_ble_eq_true rfl) hcs hsl dL_law_993 ?_
  refine l_pop hO dL_law_996 ?_
  refine l_goto (pc := 997) hO dL_law_997 (tgt := 1072) (by decide) ?_
  exact K
def stp28 (n0 : Nat) (a : Nat → Int32) (MX MY : Mem) : Option (Mem × Mem) := (fX11_image n0 MX).bind fun zx => (fX12_image n0 MY).bind fun zy => some (zx.2, zy.2)
theorem cas28 (n0 : Nat) {j : Nat} (hO : OKl p s m meth c b L xs D cy ax ay) (hj : j + 6 ≤ L) (hL : L ≤ 3072) (hcs : cells ≤ 600000) (hsl : slots ≤ 7302250) {Z : Mem × Mem} (h : stp28 n0 (fun t => xs (j + t)) MX MY = some Z) (K : LB p l e s m below meth c b D cy ax ay cells slots 1072 [(0, .ref b), (1, .ref (ax 0)), (2, .ref (ay 0)), (3, .int (nI j))] [] Z.1 Z.2) : LB p l e s m below meth c b D cy ax ay cells slots 1000 [(0, .ref b), (1, .ref (ax 0)), (2, .ref (ay 0)), (3, .int (nI j))] [] MX MY := by
  obtain ⟨zx, hX, h⟩ := Option.bind_eq_some_iff.mp h
  obtain ⟨zy, hY, h⟩ := Option.bind_eq_some_iff.mp h
  cases h
  refine l_aload_n hO dL_law_1000 1 rfl rfl ?_
  refine l_callXI hO hX mdX11_image mvX11_image rfl w1194 (As := []) (st := []) (ctX11_image n0 hO.2.2.2.2.2.2.1 _) (Nat.le_of_ble_eq_true rfl) rfl rfl (Nat.le_of_ble_eq_true rfl) hcs hsl dL_law_1001 ?_
  refine l_pop hO dL_law_1004 ?_
  refine l_aload_n hO dL_law_1005 2 rfl rfl ?_
  refine l_callYI hO hY mdX12_image mvX12_image rfl w1860 (As := []) (st := []) (ctX12_image n0 hO.2.2.2.2.2.2.2.1 _) (Nat.le_of_ble_eq_true rfl) rfl rfl (Nat.le_of_ble_eq_true rfl) hcs hsl dL_law_1006 ?_
  refine l_pop hO dL_law_1009 ?_
  refine l_goto (pc := 1010) hO dL_law_1010 (tgt := 1072) (by decide) ?_
  exact K
def stp29 (n0 : Nat) (a : Nat → Int32) (MX MY : Mem) : Option (Mem × Mem) := (fX11_octet n0 (a 1) MX).bind fun zx => (fX12_octet n0 (a 1) MY).bind fun zy => some (zx.2, zy.2)
theorem cas29 (n0 : Nat) {j : Nat} (hO : OKl p s m meth c b L xs D cy ax ay) (hj : j + 6 ≤ L) (hL : L ≤ 3072) (hcs : cells ≤ 600000) (hsl : slots ≤ 7302250) {Z : Mem × Mem} (h : stp29 n0 (fun t => xs (j + t)) MX MY = some Z) (K : LB p l e s m below meth c b D cy ax ay cells slots 1072 [(0, .ref b), (1, .ref (ax 0)), (2, .ref (ay 0)), (3, .int (nI j))] [] Z.1 Z.2) : LB p l e s m below meth c b D cy ax ay cells slots 1013 [(0, .ref b), (1, .ref (ax 0)), (2, .ref (ay 0)), (3, .int (nI j))] [] MX MY := by
  obtain ⟨zx, hX, h⟩ := Option.bind_eq_some_iff.mp h
  obtain ⟨zy, hY, h⟩ := Option.bind_eq_some_iff.mp h
  cases h
  refine l_aload_n hO dL_law_1013 1 rfl rfl ?_
  refine l_aload_n hO dL_law_1014 0 rfl rfl ?_
  refine l_iload_n hO dL_law_1015 3 rfl rfl ?_
  refine l_iconst hO dL_law_1016 ic_i_1 ?_
  refine l_iadd hO dL_law_1017 (v := nI (j + 1)) (nI_add j 1) ?_
  refine l_sld hO (n := j + 1) (by omega) (by omega) rfl dL_law_1018 ?_
  refine l_callXI hO hX mdX11_octet mvX11_octet rfl w1209 (As := [.int _]) (st := []) (ctX11_octet n0 hO.2.2.2.2.2.2.1 _ _) (Nat.le_of_ble_eq_true rfl) rfl rfl (Nat.le_of_ble_eq_true rfl) hcs hsl dL_law_1019 ?_
  refine l_pop hO dL_law_1022 ?_
  refine l_aload_n hO dL_law_1023 2 rfl rfl ?_
  refine l_aload_n hO dL_law_1024 0 rfl rfl ?_
  refine l_iload_n hO dL_law_1025 3 rfl rfl ?_
  refine l_iconst hO dL_law_1026 ic_i_1 ?_
  refine l_iadd hO dL_law_1027 (v := nI (j + 1)) (nI_add j 1) ?_
  refine l_sld hO (n := j + 1) (by omega) (by omega) rfl dL_law_1028 ?_
  refine l_callYI hO hY mdX12_octet mvX12_octet rfl w1868 (As := [.int _]) (st := []) (ctX12_octet n0 hO.2.2.2.2.2.2.2.1 _ _) (Nat.le_of_ble_eq_true rfl) rfl rfl (Nat.le_of_ble_eq_true rfl) hcs hsl dL_law_1029 ?_
  refine l_pop hO dL_law_1032 ?_
  refine l_goto (pc := 1033) hO dL_law_1033 (tgt := 1072) (by decide) ?_
  exact K
def stp30 (n0 : Nat) (a : Nat → Int32) (MX MY : Mem) : Option (Mem × Mem) := (fX11_on n0 MX).bind fun zx => (fX12_on n0 MY).bind fun zy => if zx.1 = zy.1 then some (zx.2, zy.2) else none
theorem cas30 (n0 : Nat) {j : Nat} (hO : OKl p s m meth c b L xs D cy ax ay) (hj : j + 6 ≤ L) (hL : L ≤ 3072) (hcs : cells ≤ 600000) (hsl : slots ≤ 7302250) {Z : Mem × Mem} (h : stp30 n0 (fun t => xs (j + t)) MX MY = some Z) (K : LB p l e s m below meth c b D cy ax ay cells slots 1072 [(0, .ref b), (1, .ref (ax 0)), (2, .ref (ay 0)), (3, .int (nI j))] [] Z.1 Z.2) : LB p l e s m below meth c b D cy ax ay cells slots 1036 [(0, .ref b), (1, .ref (ax 0)), (2, .ref (ay 0)), (3, .int (nI j))] [] MX MY := by
  obtain ⟨zx, hX, h⟩ := Option.bind_eq_some_iff.mp h
  obtain ⟨zy, hY, h⟩ := Option.bind_eq_some_iff.mp h
  have hE : zx.1 = zy.1 := by
    by_cases q : zx.1 = zy.1
    · exact q
    · rw [if_neg q] at h; cases h
  rw [if_pos hE] at h
  cases h
  refine l_aload_n hO dL_law_1036 1 rfl rfl ?_
  refine l_callXI hO hX mdX11_on mvX11_on rfl w1213 (As := []) (st := []) (ctX11_on n0 hO.2.2.2.2.2.2.1 _) (Nat.le_of_ble_eq_true rfl) rfl rfl (Nat.le_of_ble_eq_true rfl) hcs hsl dL_law_1037 ?_
  refine l_aload_n hO dL_law_1040 2 rfl rfl ?_
  refine l_callYI hO hY mdX12_on mvX12_on rfl w1872 (As := []) (st := [.int _]) (ctX12_on n0 hO.2.2.2.2.2.2.2.1 _) (Nat.le_of_ble_eq_true rfl) rfl rfl (Nat.le_of_ble_eq_true rfl) hcs hsl dL_law_1041 ?_
  refine l_icmpeq (pc := 1044) hO dL_law_1044 (tgt := 1072) (by decide) hE ?_
  exact K
def stp31 (n0 : Nat) (a : Nat → Int32) (MX MY : Mem) : Option (Mem × Mem) := (fX11_status n0 (a 1) MX).bind fun zx => (fX12_status n0 (a 1) MY).bind fun zy => some (zx.2, zy.2)
theorem cas31 (n0 : Nat) {j : Nat} (hO : OKl p s m meth c b L xs D cy ax ay) (hj : j + 6 ≤ L) (hL : L ≤ 3072) (hcs : cells ≤ 600000) (hsl : slots ≤ 7302250) {Z : Mem × Mem} (h : stp31 n0 (fun t => xs (j + t)) MX MY = some Z) (K : LB p l e s m below meth c b D cy ax ay cells slots 1072 [(0, .ref b), (1, .ref (ax 0)), (2, .ref (ay 0)), (3, .int (nI j))] [] Z.1 Z.2) : LB p l e s m below meth c b D cy ax ay cells slots 1049 [(0, .ref b), (1, .ref (ax 0)), (2, .ref (ay 0)), (3, .int (nI j))] [] MX MY := by
  obtain ⟨zx, hX, h⟩ := Option.bind_eq_some_iff.mp h
  obtain ⟨zy, hY, h⟩ := Option.bind_eq_some_iff.mp h
  cases h
  refine l_aload_n hO dL_law_1049 1 rfl rfl ?_
  refine l_aload_n hO dL_law_1050 0 rfl rfl ?_
  refine l_iload_n hO dL_law_1051 3 rfl rfl ?_
  refine l_iconst hO dL_law_1052 ic_i_1 ?_
  refine l_iadd hO dL_law_1053 (v := nI (j + 1)) (nI_add j 1) ?_
  refine l_sld hO (n := j + 1) (by omega) (by omega) rfl dL_law_1054 ?_
  refine l_callXI hO hX mdX11_status mvX11_status rfl w1232 (As := [.int _]) (st := []) (ctX11_status n0 hO.2.2.2.2.2.2.1 _ _) (Nat.le_of_ble_eq_true rfl) rfl rfl (Nat.le_of_ble_eq_true rfl) hcs hsl dL_law_1055 ?_
  refine l_pop hO dL_law_1058 ?_
  refine l_aload_n hO dL_law_1059 2 rfl rfl ?_
  refine l_aload_n hO dL_law_1060 0 rfl rfl ?_
  refine l_iload_n hO dL_law_1061 3 rfl rfl ?_
  refine l_iconst hO dL_law_1062 ic_i_1 ?_
  refine l_iadd hO dL_law_1063 (v := nI (j + 1)) (nI_add j 1) ?_
  refine l_sld hO (n := j + 1) (by omega) (by omega) rfl dL_law_1064 ?_
  refine l_callYI hO hY mdX12_status mvX12_status rfl w1693 (As := [.int _]) (st := []) (ctX12_status n0 hO.2.2.2.2.2.2.2.1 _ _) (Nat.le_of_ble_eq_true rfl) rfl rfl (Nat.le_of_ble_eq_true rfl) hcs hsl dL_law_1065 ?_
  refine l_pop hO dL_law_1068 ?_
  refine l_goto (pc := 1069) hO dL_law_1069 (tgt := 1072) (by decide) ?_
  exact K
def stepL (n0 : Nat) (k : Nat) (a : Nat → Int32) (MX MY : Mem) : Option (Mem × Mem) := match k with
  | 0 => stp0 n0 a MX MY
  | 1 => stp1 n0 a MX MY
  | 2 => stp2 n0 a MX MY
  | 3 => stp3 n0 a MX MY
  | 4 => stp4 n0 a MX MY
  | 5 => stp5 n0 a MX MY
  | 6 => stp6 n0 a MX MY
  | 7 => stp7 n0 a MX MY
  | 8 => stp8 n0 a MX MY
  | 9 => stp9 n0 a MX MY
  | 10 => stp10 n0 a MX MY
  | 11 => stp11 n0 a MX MY
  | 12 => stp12 n0 a MX MY
  | 13 => stp13 n0 a MX MY
  | 14 => stp14 n0 a MX MY
  | 15 => stp15 n0 a MX MY
  | 16 => stp16 n0 a MX MY
  | 17 => stp17 n0 a MX MY
  | 18 => stp18 n0 a MX MY
  | 19 => stp19 n0 a MX MY
  | 20 => stp20 n0 a MX MY
  | 21 => stp21 n0 a MX MY
  | 22 => stp22 n0 a MX MY
  | 23 => stp23 n0 a MX MY
  | 24 => stp24 n0 a MX MY
  | 25 => stp25 n0 a MX MY
  | 26 => stp26 n0 a MX MY
  | 27 => stp27 n0 a MX MY
  | 28 => stp28 n0 a MX MY
  | 29 => stp29 n0 a MX MY
  | 30 => stp30 n0 a MX MY
  | 31 => stp31 n0 a MX MY
  | _ => none
/-- the law, as a function: w calls at most, j ints read -/
def lawF (n0 L : Nat) (xs : Nat → Int32) : Nat → Nat → Mem → Mem → Option Unit
  | 0, _, _, _ => none
  | w + 1, j, MX, MY => if j + 6 ≤ L then (stepL n0 ((xs j).toBitVec.toNat % 32) (fun t => xs (j + t)) MX MY).bind fun z => lawF n0 L xs w (j + 6) z.1 z.2 else some ()
theorem law_loop (n0 : Nat) (hO : OKl p s m meth c b L xs D cy ax ay) (hL : L ≤ 3072) (hcs : cells ≤ 600000) (hsl : slots ≤ 7302250) : ∀ (w j : Nat) (MX MY : Mem), j ≤ L → lawF n0 L xs w j MX MY = some () → LB p l e s m below meth c b D cy ax ay cells slots 18 [(0, .ref b), (1, .ref (ax 0)), (2, .ref (ay 0)), (3, .int (nI j))] [] MX MY := by
  intro w
  induction w with
  | zero => intro j MX MY _ h; cases h
  | succ w ih =>
  intro j MX MY hjL h
  rw [lawF] at h
  refine l_iload_n hO dL_law_18 3 rfl rfl ?_
  refine l_aload_n hO dL_law_19 0 rfl rfl ?_
  refine l_slen hO dL_law_20 ?_
  refine l_bipush hO dL_law_21 ic_b_6 ?_
  refine l_isub hO dL_law_23 rfl ?_
  refine l_icmpgt (pc := 24) hO dL_law_24 (tgt := 1078) (by decide) (fun hgt => ?_) (fun hgt => ?_)
  · refine l_iconst hO dL_law_1078 ic_i_1 ?_
    exact l_ret hO hcs hsl dL_law_1079
  have hj : j + 6 ≤ L := by
    rcases Nat.lt_or_ge L (j + 6) with q | q
    · refine absurd ?_ hgt
      have e6 : (6 : Int32) = nI 6 := rfl
      rw [Int32.lt_iff_toInt_lt, e6, pk_sub_toInt (by omega) (by decide), nI_toInt (by omega)]
      omega
    · exact q
  rw [if_pos hj] at h
  obtain ⟨Z, hz, h⟩ := Option.bind_eq_some_iff.mp h
  refine l_aload_n hO dL_law_27 0 rfl rfl ?_
  refine l_iload_n hO dL_law_28 3 rfl rfl ?_
  refine l_sld hO (n := j) (by omega) (by omega) rfl dL_law_29 ?_
  refine l_bipush hO dL_law_30 ic_b_31 ?_
  refine l_iand hO dL_law_32 (pk_and (xs j) (m := 31) 5 (by decide)) ?_
  have K : LB p l e s m below meth c b D cy ax ay cells slots 1072 [(0, .ref b), (1, .ref (ax 0)), (2, .ref (ay 0)), (3, .int (nI j))] [] Z.1 Z.2 := by
    refine l_iinc hO dL_law_1072 3 rfl (v := nI (j + 6)) (nI_add j 6) (by decide) (lv' := [(3, .int (nI (j + 6))), (0, .ref b), (1, .ref (ax 0)), (2, .ref (ay 0))]) rfl ?_
    refine l_goto (pc := 1075) hO dL_law_1075 (tgt := 18) (by decide) ?_
    refine l_sub [1, 2, 3, 0] rfl ?_
    exact ih (j + 6) Z.1 Z.2 hj h
  have hk32 : (xs j).toBitVec.toNat % 2 ^ 5 < 32 := Nat.mod_lt _ (by decide)
  have hz : stepL n0 ((xs j).toBitVec.toNat % 2 ^ 5) (fun t => xs (j + t)) MX MY = some Z := hz
  revert hz hk32
  generalize (xs j).toBitVec.toNat % 2 ^ 5 = k
  intro hk32 hz
  rcases (show k = 0 ∨ k = 1 ∨ k = 2 ∨ k = 3 ∨ k = 4 ∨ k = 5 ∨ k = 6 ∨ k = 7 ∨ k = 8 ∨ k = 9 ∨ k = 10 ∨ k = 11 ∨ k = 12 ∨ k = 13 ∨ k = 14 ∨ k = 15 ∨ k = 16 ∨ k = 17 ∨ k = 18 ∨ k = 19 ∨ k = 20 ∨ k = 21 ∨ k = 22 ∨ k = 23 ∨ k = 24 ∨ k = 25 ∨ k = 26 ∨ k = 27 ∨ k = 28 ∨ k = 29 ∨ k = 30 ∨ k = 31 by omega) with rfl | rfl | rfl | rfl | rfl | rfl | rfl | rfl | rfl | rfl | rfl | rfl | rfl | rfl | rfl | rfl | rfl | rfl | rfl | rfl | rfl | rfl | rfl | rfl | rfl | rfl | rfl | rfl | rfl | rfl | rfl | rfl
  · exact l_tab (pc := 33) hO dL_law_33 (off := 143) (tgt := 176) (by decide) (by decide) (by decide) (by decide) (cas0 n0 hO hj hL hcs hsl hz K)
  · exact l_tab (pc := 33) hO dL_law_33 (off := 206) (tgt := 239) (by decide) (by decide) (by decide) (by decide) (cas1 n0 hO hj hL hcs hsl hz K)
  · exact l_tab (pc := 33) hO dL_law_33 (off := 229) (tgt := 262) (by decide) (by decide) (by decide) (by decide) (cas2 n0 hO hj hL hcs hsl hz K)
  · exact l_tab (pc := 33) hO dL_law_33 (off := 242) (tgt := 275) (by decide) (by decide) (by decide) (by decide) (cas3 n0 hO hj hL hcs hsl hz K)
  · exact l_tab (pc := 33) hO dL_law_33 (off := 265) (tgt := 298) (by decide) (by decide) (by decide) (by decide) (cas4 n0 hO hj hL hcs hsl hz K)
  · exact l_tab (pc := 33) hO dL_law_33 (off := 288) (tgt := 321) (by decide) (by decide) (by decide) (by decide) (cas5 n0 hO hj hL hcs hsl hz K)
  · exact l_tab (pc := 33) hO dL_law_33 (off := 331) (tgt := 364) (by decide) (by decide) (by decide) (by decide) (cas6 n0 hO hj hL hcs hsl hz K)
  · exact l_tab (pc := 33) hO dL_law_33 (off := 364) (tgt := 397) (by decide) (by decide) (by decide) (by decide) (cas7 n0 hO hj hL hcs hsl hz K)
  · exact l_tab (pc := 33) hO dL_law_33 (off := 397) (tgt := 430) (by decide) (by decide) (by decide) (by decide) (cas8 n0 hO hj hL hcs hsl hz K)
  · exact l_tab (pc := 33) hO dL_law_33 (off := 430) (tgt := 463) (by decide) (by decide) (by decide) (by decide) (cas9 n0 hO hj hL hcs hsl hz K)
  · exact l_tab (pc := 33) hO dL_law_33 (off := 463) (tgt := 496) (by decide) (by decide) (by decide) (by decide) (cas10 n0 hO hj hL hcs hsl hz K)
  · exact l_tab (pc := 33) hO dL_law_33 (off := 486) (tgt := 519) (by decide) (by decide) (by decide) (by decide) (cas11 n0 hO hj hL hcs hsl hz K)
  · exact l_tab (pc := 33) hO dL_law_33 (off := 519) (tgt := 552) (by decide) (by decide) (by decide) (by decide) (cas12 n0 hO hj hL hcs hsl hz K)
  · exact l_tab (pc := 33) hO dL_law_33 (off := 562) (tgt := 595) (by decide) (by decide) (by decide) (by decide) (cas13 n0 hO hj hL hcs hsl hz K)
  · exact l_tab (pc := 33) hO dL_law_33 (off := 595) (tgt := 628) (by decide) (by decide) (by decide) (by decide) (cas14 n0 hO hj hL hcs hsl hz K)
  · exact l_tab (pc := 33) hO dL_law_33 (off := 638) (tgt := 671) (by decide) (by decide) (by decide) (by decide) (cas15 n0 hO hj hL hcs hsl hz K)
  · exact l_tab (pc := 33) hO dL_law_33 (off := 671) (tgt := 704) (by decide) (by decide) (by decide) (by decide) (cas16 n0 hO hj hL hcs hsl hz K)
  · exact l_tab (pc := 33) hO dL_law_33 (off := 704) (tgt := 737) (by decide) (by decide) (by decide) (by decide) (cas17 n0 hO hj hL hcs hsl hz K)
  · exact l_tab (pc := 33) hO dL_law_33 (off := 727) (tgt := 760) (by decide) (by decide) (by decide) (by decide) (cas18 n0 hO hj hL hcs hsl hz K)
  · exact l_tab (pc := 33) hO dL_law_33 (off := 740) (tgt := 773) (by decide) (by decide) (by decide) (by decide) (cas19 n0 hO hj hL hcs hsl hz K)
  · exact l_tab (pc := 33) hO dL_law_33 (off := 763) (tgt := 796) (by decide) (by decide) (by decide) (by decide) (cas20 n0 hO hj hL hcs hsl hz K)
  · exact l_tab (pc := 33) hO dL_law_33 (off := 796) (tgt := 829) (by decide) (by decide) (by decide) (by decide) (cas21 n0 hO hj hL hcs hsl hz K)
  · exact l_tab (pc := 33) hO dL_law_33 (off := 819) (tgt := 852) (by decide) (by decide) (by decide) (by decide) (cas22 n0 hO hj hL hcs hsl hz K)
  · exact l_tab (pc := 33) hO dL_law_33 (off := 842) (tgt := 875) (by decide) (by decide) (by decide) (by decide) (cas23 n0 hO hj hL hcs hsl hz K)
  · exact l_tab (pc := 33) hO dL_law_33 (off := 875) (tgt := 908) (by decide) (by decide) (by decide) (by decide) (cas24 n0 hO hj hL hcs hsl hz K)
  · exact l_tab (pc := 33) hO dL_law_33 (off := 898) (tgt := 931) (by decide) (by decide) (by decide) (by decide) (cas25 n0 hO hj hL hcs hsl hz K)
  · exact l_tab (pc := 33) hO dL_law_33 (off := 911) (tgt := 944) (by decide) (by decide) (by decide) (by decide) (cas26 n0 hO hj hL hcs hsl hz K)
  · exact l_tab (pc := 33) hO dL_law_33 (off := 934) (tgt := 967) (by decide) (by decide) (by decide) (by decide) (cas27 n0 hO hj hL hcs hsl hz K)
  · exact l_tab (pc := 33) hO dL_law_33 (off := 967) (tgt := 1000) (by decide) (by decide) (by decide) (by decide) (cas28 n0 hO hj hL hcs hsl hz K)
  · exact l_tab (pc := 33) hO dL_law_33 (off := 980) (tgt := 1013) (by decide) (by decide) (by decide) (by decide) (cas29 n0 hO hj hL hcs hsl hz K)
  · exact l_tab (pc := 33) hO dL_law_33 (off := 1003) (tgt := 1036) (by decide) (by decide) (by decide) (by decide) (cas30 n0 hO hj hL hcs hsl hz K)
  · exact l_tab (pc := 33) hO dL_law_33 (off := 1016) (tgt := 1049) (by decide) (by decide) (by decide) (by decide) (cas31 n0 hO hj hL hcs hsl hz K)
end
end
section
theorem bzw0 : (okW 141 (Cond.methodLink "PalmHoursLaw" 9 ⟨"PalmHours", "<init>", "()V"⟩) && (okW 142 (Cond.instanceMethod ⟨"PalmHours", "<init>", "()V"⟩) && (okW 1238 (Cond.methodLink "PalmHoursLaw" 12 ⟨"PalmHoursModel", "<init>", "()V"⟩) && (okW 1239 (Cond.instanceMethod ⟨"PalmHoursModel", "<init>", "()V"⟩) && (true))))) = true := by decide +kernel
theorem w141 : Cond.methodLink "PalmHoursLaw" 9 ⟨"PalmHours", "<init>", "()V"⟩ ∈ lw_g := okW_g (an1 bzw0)
theorem w142 : Cond.instanceMethod ⟨"PalmHours", "<init>", "()V"⟩ ∈ lw_g := okW_g (an1 (an2 bzw0))
theorem w1238 : Cond.methodLink "PalmHoursLaw" 12 ⟨"PalmHoursModel", "<init>", "()V"⟩ ∈ lw_g := okW_g (an1 (an2 (an2 bzw0)))
theorem w1239 : Cond.instanceMethod ⟨"PalmHoursModel", "<init>", "()V"⟩ ∈ lw_g := okW_g (an1 (an2 (an2 (an2 bzw0))))
theorem bzw1 : (wdC 143 ⟨"PalmHours", "<init>", "()V"⟩ cX11_init 1 none && (wdC 1240 ⟨"PalmHoursModel", "<init>", "()V"⟩ cX12_init 2 none && (true))) = true := by decide +kernel
theorem w143 : Cond.code ⟨"PalmHours", "<init>", "()V"⟩ cX11_init 1 none ∈ lw_g := wdC_g (an1 bzw1)
theorem w1240 : Cond.code ⟨"PalmHoursModel", "<init>", "()V"⟩ cX12_init 2 none ∈ lw_g := wdC_g (an1 (an2 bzw1))
theorem mdX11_init : MD yX11_init cX11_init 1 none 0 := ⟨w143, w120, by decide +kernel, by decide⟩
theorem mdX12_init : MD yX12_init cX12_init 2 none 0 := ⟨w1240, w137, by decide +kernel, by decide⟩
theorem bzw2 : (okW 140 (Cond.instantiable "PalmHours" 18) && (okW 1237 (Cond.instantiable "PalmHoursModel" 68) && (okW 139 (Cond.classLink "PalmHoursLaw" 7 "PalmHours") && (true)))) = true := by decide +kernel
theorem xw140 : Cond.instantiable "PalmHours" 18 ∈ lw_g := okW_g (an1 bzw2)
theorem xw1237 : Cond.instantiable "PalmHoursModel" 68 ∈ lw_g := okW_g (an1 (an2 bzw2))
theorem xw139 : Cond.classLink "PalmHoursLaw" 7 "PalmHours" ∈ lw_g := okW_g (an1 (an2 (an2 bzw2)))
theorem nlL_7 : NL RL 7 11 RX11 TX11 18 tyX11 := ⟨rfl, inX11, xw139, xw140, w120, tyX11_ok⟩
theorem bzw3 : (okW 1236 (Cond.classLink "PalmHoursLaw" 10 "PalmHoursModel") && (true)) = true := by decide +kernel
theorem xw1236 : Cond.classLink "PalmHoursLaw" 10 "PalmHoursModel" ∈ lw_g := okW_g (an1 bzw3)
theorem nlL_10 : NL RL 10 12 RX12 TX12 68 tyX12 := ⟨rfl, inX12, xw1236, xw1237, w137, tyX12_ok⟩
theorem fsX11 : ∀ j, j < 18 → defaultValue (tyX11 j) = vp_V [.null, .null, .null, .null, .null, .null, .null, .null, .null, .null, .null, .null, .null, .null, .int 0, .int 0, .int 0, .int 0] j := fun j hj => by rcases (show j = 0 ∨ j = 1 ∨ j = 2 ∨ j = 3 ∨ j = 4 ∨ j = 5 ∨ j = 6 ∨ j = 7 ∨ j = 8 ∨ j = 9 ∨ j = 10 ∨ j = 11 ∨ j = 12 ∨ j = 13 ∨ j = 14 ∨ j = 15 ∨ j = 16 ∨ j = 17 by omega) with rfl | rfl | rfl | rfl | rfl | rfl | rfl | rfl | rfl | rfl | rfl | rfl | rfl | rfl | rfl | rfl | rfl | rfl <;> rfl
theorem fsX12 : ∀ j, j < 68 → defaultValue (tyX12 j) = vp_V [.null, .int 0, .int 0, .int 0, .int 0, .int 0, .int 0, .long 0, .int 0, .int 0, .int 0, .int 0, .int 0, .int 0, .null, .null, .null, .null, .null, .null, .null, .null, .null, .null, .null, .null, .null, .null, .null, .null, .null, .null, .null, .int 0, .int 0, .int 0, .null, .null, .null, .null, .null, .int 0, .int 0, .null, .int 0, .int 0, .null, .null, .null, .null, .null, .null, .null, .int 0, .int 0, .long 0, .null, .null, .null, .null, .null, .int 0, .null, .null, .null, .null, .null, .int 0] j := fun j hj => by rcases (show j = 0 ∨ j = 1 ∨ j = 2 ∨ j = 3 ∨ j = 4 ∨ j = 5 ∨ j = 6 ∨ j = 7 ∨ j = 8 ∨ j = 9 ∨ j = 10 ∨ j = 11 ∨ j = 12 ∨ j = 13 ∨ j = 14 ∨ j = 15 ∨ j = 16 ∨ j = 17 ∨ j = 18 ∨ j = 19 ∨ j = 20 ∨ j = 21 ∨ j = 22 ∨ j = 23 ∨ j = 24 ∨ j = 25 ∨ j = 26 ∨ j = 27 ∨ j = 28 ∨ j = 29 ∨ j = 30 ∨ j = 31 ∨ j = 32 ∨ j = 33 ∨ j = 34 ∨ j = 35 ∨ j = 36 ∨ j = 37 ∨ j = 38 ∨ j = 39 ∨ j = 40 ∨ j = 41 ∨ j = 42 ∨ j = 43 ∨ j = 44 ∨ j = 45 ∨ j = 46 ∨ j = 47 ∨ j = 48 ∨ j = 49 ∨ j = 50 ∨ j = 51 ∨ j = 52 ∨ j = 53 ∨ j = 54 ∨ j = 55 ∨ j = 56 ∨ j = 57 ∨ j = 58 ∨ j = 59 ∨ j = 60 ∨ j = 61 ∨ j = 62 ∨ j = 63 ∨ j = 64 ∨ j = 65 ∨ j = 66 ∨ j = 67 by omega) with rfl | rfl | rfl | rfl | rfl | rfl | rfl | rfl | rfl | rfl | rfl | rfl | rfl | rfl | rfl | rfl | rfl | rfl | rfl | rfl | rfl | rfl | rfl | rfl | rfl | rfl | rfl | rfl | rfl | rfl | rfl | rfl | rfl | rfl | rfl | rfl | rfl | rfl | rfl | rfl | rfl | rfl | rfl | rfl | rfl | rfl | rfl | rfl | rfl | rfl | rfl | rfl | rfl | rfl | rfl | rfl | rfl | rfl | rfl | rfl | rfl | rfl | rfl | rfl | rfl | rfl | rfl | rfl <;> rfl
theorem ao_spec {args : Array Value} {s : State} (h : (Cond.arrayOver (.array .int)).before args s = true) : ∃ (comp c : ClassId) (k : Class), s.vm.findClass "[I" = some comp ∧ s.vm.classes[c]? = some k ∧ k.kind = .array comp (.array .int) ∧ s.vm.findClass "[[I" = some c := by
  have h : (Cond.arrayOver (.array .int)).holds args s none s [] = true := h
  simp only [Cond.holds, Cond.value, beq_iff_eq] at h
  cases hc : s.vm.findClass (FieldType.array .int).toString with
  | none => simp [hc] at h
  | some comp =>
    simp only [hc, Option.bind_some, Option.bind_eq_some_iff, Option.map_eq_some_iff] at h
    obtain ⟨c, hi, k, hk, hb⟩ := h
    obtain ⟨hlt, hp, -⟩ := Array.findIdx?_eq_some_iff_getElem.mp hi
    have hkk : s.vm.classes[c] = k := (Array.getElem?_eq_some_iff.mp hk).2
    rw [hkk] at hp
    cases hkind : k.kind with
    | array component ty =>
      rw [hkind] at hb hp
      simp at hb hp
      exact ⟨comp, c, k, hc, hk, by rw [hkind, hp, hb.1], hb.2⟩
    | _ => rw [hkind] at hb; simp at hb
/-- what the reference's cells hold at first -/
def MY0 : Mem := (fun k => if k = 9 then (-1) else if k = 11 then (-1) else if k = 12 then (-1) else if k = 34 then 1 else 0, fun p => if p = 14 then (upd (upd (upd (upd (fun _ => 0) 0 (-1)) 1 (-1)) 2 (-1)) 3 (-1)) else (fun _ => 0), fun _ => 0, fun k => if k = 55 then 1 else 0, fun _ _ => 0)
theorem MY0_wf : WFm LY MY0 := fun k hk => absurd hk (by show ¬ (99 : Nat) < 99; decide)
theorem nestW_in : ∀ w ∈ nestW, w ∈ lw_tbl := fun w hw => by
  have hp : nestW = [149, 168, 174, 486, 505, 518].filterMap (fun i => lw_tbl[i]?) := by decide +kernel
  rw [hp] at hw
  obtain ⟨i, -, hi⟩ := List.mem_filterMap.mp hw
  exact List.mem_of_getElem? hi
def pkO (f : Nat → Cond) (N : Nat) : List Cond → Nat → Bool
  | [], j => decide (N ≤ j)
  | t :: ts, j => if N ≤ j then true else if t = f j then pkO f N ts (j + 1) else pkO f N ts j
theorem pkO_s {f : Nat → Cond} {N : Nat} : ∀ (ts : List Cond) (j : Nat), pkO f N ts j = true → ∀ k, j ≤ k → k < N → f k ∈ ts
  | [], j, h => fun k h1 h2 => by
    have : N ≤ j := of_decide_eq_true h
    omega
  | t :: ts, j, h => fun k h1 h2 => by
    have h' : (if N ≤ j then true else if t = f j then pkO f N ts (j + 1) else pkO f N ts j) = true := h
    rw [if_neg (by omega)] at h'
    by_cases g : t = f j
    · rw [if_pos g] at h'
      by_cases e : k = j
      · rw [e, ← g]
        exact List.mem_cons_self
      · exact List.mem_cons_of_mem _ (pkO_s ts (j + 1) h' k (by omega) h2)
    · rw [if_neg g] at h'
      exact List.mem_cons_of_mem _ (pkO_s ts j h' k h1 h2)
theorem owB_k : pkO (fun j => Cond.eq (.elem (.field (.string "PalmHours$Tokens" 41) "java/lang/String" "value" "[B") (.int (Int32.ofNat j))) (.int (owB.getD j 0))) 121 (flatC (Jvm.Cond.and given_1 narrow_1)) 0 = true := by decide +kernel
theorem owB_in : ∀ j, j < 121 → Cond.eq (.elem (.field (.string "PalmHours$Tokens" 41) "java/lang/String" "value" "[B") (.int (Int32.ofNat j))) (.int (owB.getD j 0)) ∈ flatC (Jvm.Cond.and given_1 narrow_1) := fun j hj => pkO_s _ 0 owB_k j (Nat.zero_le j) hj
/-- what lies below the law's start -/
theorem law_EX {p : Program} {s : State} {m : MethodId} {meth : Method} {c : Code} {b L : Nat} {xs : Nat → Int32} (C0 : lw_At p s m meth c b L xs) : ∃ (D : va_G) (cy : Nat → ClassId) (ka va : Nat), va_K D vwCl (tyl cy) s ∧ EX cy s.heap.size ka va s := by
  obtain ⟨hx, hb, hr, hml, hown, hts, hX, hbl, hlocks, hgv⟩ := C0
  have htg : ∀ w ∈ lw_g, w.before #[Value.ref b] s = true := fun w h => hts w (sub_g h)
  have hs := flat_of_before _ hgv
  obtain ⟨c0, i0, hk0⟩ := u_known (C := RX0) (T := TX0) (N := 2) (n := 2) htg inX0 (htg _ xw173)
  obtain ⟨c1, i1, hk1⟩ := u_known (C := RX1) (T := TX1) (N := 8) (n := 8) htg inX1 (htg _ xw411)
  obtain ⟨c2, i2, hk2⟩ := u_known (C := RX2) (T := TX2) (N := 3) (n := 3) htg inX2 (htg _ xw485)
  obtain ⟨c3, i3, hk3⟩ := u_known (C := RX3) (T := TX3) (N := 3) (n := 3) htg inX3 (htg _ xw384)
  obtain ⟨c4, i4, hk4⟩ := u_known (C := RX4) (T := TX4) (N := 3) (n := 3) htg inX4 (htg _ xw283)
  obtain ⟨c5, i5, hk5⟩ := u_known (C := RX5) (T := TX5) (N := 5) (n := 5) htg inX5 (htg _ xw517)
  obtain ⟨c6, i6, hk6⟩ := u_known (C := RX6) (T := TX6) (N := 8) (n := 8) htg inX6 (htg _ xw447)
  obtain ⟨c7, i7, hk7⟩ := u_known (C := RX7) (T := TX7) (N := 2) (n := 2) htg inX7 (htg _ xw148)
  obtain ⟨c8, i8, hk8⟩ := u_known (C := RX8) (T := TX8) (N := 9) (n := 9) htg inX8 (htg _ xw289)
  obtain ⟨c9, i9, hk9⟩ := u_known (C := RX9) (T := TX9) (N := 19) (n := 19) htg inX9 (htg _ xw167)
  obtain ⟨c10, i10, hk10⟩ := u_known (C := RX10) (T := TX10) (N := 2) (n := 2) htg inX10 (htg _ xw504)
  obtain ⟨c11, i11, hk11⟩ := u_known (C := RX11) (T := TX11) (N := 18) (n := 18) htg inX11 (htg _ xw140)
  obtain ⟨c12, i12, hk12⟩ := u_known (C := RX12) (T := TX12) (N := 68) (n := 68) htg inX12 (htg _ xw1237)
  obtain ⟨ci, kI, bI, hfI, hkI, hdI⟩ := Cond.arrayClass_spec (htg _ xw165)
  obtain ⟨cl, kL, bL, hfL, hkL, hdL⟩ := Cond.arrayClass_spec (htg _ xw1447)
  obtain ⟨cz, kZ, bZ, hfZ, hkZ, hdZ⟩ := Cond.arrayClass_spec (htg _ xw1448)
  obtain ⟨c1', c33, kA, hfc, hkA, hdA, hfA⟩ := ao_spec (hts (Cond.arrayOver (.array .int)) (List.mem_of_getElem? (i := 491) (by decide +kernel)))
  have e1 : c1' = ci := Option.some.inj (hfc.symm.trans hfI)
  subst e1
  obtain ⟨adK, adV, hvS, hvE⟩ := vk_Sof (args := #[Value.ref b]) (s := s) (N := 1) (tm := fun _ => .string "PalmHours$Tokens" 41) (len := [121]) (byt := [owB]) (A := fun q => s.heap.size ≤ q)
    (fun i hi => by rw [show i = 0 by omega]; decide) (fun i hi => hs _ (by decide +kernel)) (fun i hi => hs _ (by decide +kernel)) (fun i hi => hs _ (by decide +kernel))
    (fun i hi => by rw [show i = 0 by omega]; exact hs _ (by decide +kernel)) (fun i hi j hj => by rw [show i = 0 by omega] at hj ⊢; exact hs _ (owB_in j hj)) (fun i j hi hj h => absurd (show i = j by omega) h) (fun a ha => Nat.not_le.mpr ha)
  refine ⟨(fun k => [c0, c1, c2, c3, c4, c5, c6, c7, c8, c9, c10, c11, c12].getD k c0, fun k => [i0, i1, i2, i3, i4, i5, i6, i7, i8, i9, i10, i11, i12].getD k i0), fun k => [c1', cl, cz, c33].getD k c1', adK 0, adV 0, ⟨?_, ?_⟩, ?_⟩
  · intro k q hq
    match k, hq with
    | 0, hq => cases hq; exact hk0
    | 1, hq => cases hq; exact hk1
    | 2, hq => cases hq; exact hk2
    | 3, hq => cases hq; exact hk3
    | 4, hq => cases hq; exact hk4
    | 5, hq => cases hq; exact hk5
    | 6, hq => cases hq; exact hk6
    | 7, hq => cases hq; exact hk7
    | 8, hq => cases hq; exact hk8
    | 9, hq => cases hq; exact hk9
    | 10, hq => cases hq; exact hk10
    | 11, hq => cases hq; exact hk11
    | 12, hq => cases hq; exact hk12
    | k + 13, hq => simp [vwCl] at hq
  · intro k q hq
    match k, hq with
    | 0, hq => cases hq; exact ⟨fun n z => ⟨(fun q hq => by cases hq), kI, hkI, bI, hdI⟩, hfI⟩
    | 1, hq => cases hq; exact ⟨fun n z => ⟨(fun q hq => by cases hq), kL, hkL, bL, hdL⟩, hfL⟩
    | 2, hq => cases hq; exact ⟨fun n z => ⟨(fun q hq => by cases hq), kZ, hkZ, bZ, hdZ⟩, hfZ⟩
    | 3, hq => cases hq; exact ⟨fun n z => ⟨(fun q hq => by cases hq), kA, hkA, c1', hdA⟩, hfA⟩
    | k + 4, hq => simp [tyl] at hq
  · refine ⟨⟨⟨kA, hkA, hdA⟩, kI, bI, hkI, hdI⟩, fun w hw => ?_, vk_R.of (hts _ (List.mem_of_getElem? (i := 294) (by decide +kernel))) (hvE 0 (by decide)), ?_, va_Zof (hts _ (List.mem_of_getElem? (i := 304) (by decide +kernel))) (htg _ w126) (va_eqt (hs _ (by decide +kernel))) (fun a ha => Nat.not_le.mpr ha), va_Zqof (hts _ (List.mem_of_getElem? (i := 320) (by decide +kernel))) (htg _ w128) (hs _ (by decide +kernel)) (fun a ha => Nat.not_le.mpr ha)⟩
    · have h9 := hts w (nestW_in w hw)
      obtain ⟨a, i, x, h, rfl⟩ := nestW_M w hw
      exact va_Nw.of rfl h9
    · refine ⟨fun i hi => ?_, fun i j hi hj _ => by omega⟩
      have h9 := hvS.1 0 (by decide)
      rw [show i = 0 by omega]
      exact h9
set_option maxHeartbeats 4000000 in
set_option maxRecDepth 20000 in
theorem start_gen {p : Program} {e : Env} {s : State} {m : MethodId} {below : List Frame} {meth : Method} {c : Code} (l : Launch) {b L : Nat} {xs : Nat → Int32} (hL : L ≤ 3072) (C0 : lw_At p s m meth c b L xs) {n0 w : Nat} {M1 : Mem} (hbeg : fX11_begin n0 MX0 = some M1) (hlaw : lawF n0 L xs w 0 M1 MY0 = some ()) : W p l e room_1 s m #[Value.ref b] below meth c s.heap [] 0 0 (lw_Z below #[Value.ref b] s) (entryFrame m ([Value.ref b] : List Value).toArray 4) := by
  obtain ⟨D, cy, ka, va, hK, hE⟩ := law_EX C0
  obtain ⟨hx, hb, hr, hml, hown, hts, hX, hbl, hlocks, hgv⟩ := C0
  have htg : ∀ w ∈ lw_g, w.before #[Value.ref b] s = true := fun w h => hts w (sub_g h)
  have hA : ∀ q : Nat, s.heap.size ≤ q → (fun q : Nat => s.heap.size ≤ q) q := fun _ h => h
  have hS : va_S (fun q : Nat => s.heap.size ≤ q) s.heap s.heap [] := va_S.rf
  have hP : va_P D vwCl [] s.heap := fun k q h => by simp at h
  have hD : va_D (fun q : Nat => s.heap.size ≤ q) [] := ⟨fun i j p q h => by simp at h, fun k q h => by simp at h⟩
  have hl := lv_entry ([.ref b]) (n := 4) (Nat.le_of_ble_eq_true rfl)
  rw [lg_entry_eq]
  generalize (lg_sl ([.ref b]) ++ List.replicate (4 - (lg_sl ([.ref b])).length) Slot.unset).toArray = ls at hl ⊢
  have hl : lv_has ls 4 [(0, .ref b)] := hl
  have nX := nlL_7
  have nY := nlL_10
  refine va_new (ci := 11) (fs := [.null, .null, .null, .null, .null, .null, .null, .null, .null, .null, .null, .null, .null, .null, .int 0, .int 0, .int 0, .int 0]) (C := RX11) (T := TX11) (N := 18) hx hb htg inX11 tyX11 tyX11_ok hown (htg _ nX.2.2.1) (htg _ nX.2.2.2.1) (htg _ nX.2.2.2.2.1) hK hP hD hS hA rfl fsX11 (Nat.le_of_ble_eq_true rfl) (Nat.le_of_ble_eq_true rfl) dL_law_0 (fun q0v H hP hD hS => ?_)
  have hP : va_P D vwCl [(q0v, .inr (11, [.null, .null, .null, .null, .null, .null, .null, .null, .null, .null, .null, .null, .null, .null, .int 0, .int 0, .int 0, .int 0]))] H := hP
  have hD : va_D (fun q : Nat => s.heap.size ≤ q) [(q0v, .inr (11, [.null, .null, .null, .null, .null, .null, .null, .null, .null, .null, .null, .null, .null, .null, .int 0, .int 0, .int 0, .int 0]))] := hD
  refine lv_dup hx hb dL_law_3 rfl ?_
  have hFc := va_free (wc := [(q0v, .inr (11, [.null, .null, .null, .null, .null, .null, .null, .null, .null, .null, .null, .null, .null, .null, .int 0, .int 0, .int 0, .int 0]))]) hD hS hA [0] rfl
  refine va_callv (va_runI (As := []) (rest := [.ref q0v]) ⟨hx, hb, hml, hown, htg⟩ (ccX11_init (l := l) (D := D) (cy := cy) (B0 := s.heap.size) (ka := ka) (va := va) q0v hbeg H.size) ⟨callB_of 0 htg (gd_all mdX11_init) rfl rfl rfl (htg _ w120) (htg _ w141) mdX11_init.2.2.1 ⟨(Nat.le_of_ble_eq_true rfl), (Nat.le_of_ble_eq_true rfl)⟩, rfl, htg _ w142⟩ ⟨CC_blind, fun U hU hW => ⟨rfl, by rw [hU], by rw [hU]; exact hP, va_K.moved hW.alike hK, hD.weaken (fun _ _ _ _ => trivial), EX.st hW (fun a h1 h2 => by rw [hU]; exact hS.2.1 a h1 h2) hE, fun q h => hFc q h⟩⟩ rfl rfl hl.1 rfl (lv_room (Nat.le_of_ble_eq_true rfl)) dL_law_4 ⟨(Nat.le_of_ble_eq_true rfl), (Nat.le_of_ble_eq_true rfl)⟩) hS (fun q _ h => hFc q h) hFc (fun ax t H1 locs ht hvm hw hB hz1 hk1 hS => ?_)
  obtain ⟨hax0, hIX, haxA⟩ := hw
  have hWX : WD LX D cy ax M1 H1 := ⟨by have := hB.1.1; rw [ht] at this; exact this, hB.1.2⟩
  have haxs : ∀ k, k < 90 → s.heap.size ≤ ax k := fun k hk => hFc _ (haxA k hk)
  refine lv_astore_n (lv' := [(1, .ref q0v), (0, .ref b)]) hx hb dL_law_7 rfl hl (by decide) rfl (fun ls hl => ?_)
  have hDX : va_D (fun q : Nat => s.heap.size ≤ q) (wl LX cy ax M1) := ⟨(wl_D hIX M1).1, fun k q hk => by
    obtain ⟨h1, rfl⟩ := wl_at hk
    exact haxs k h1⟩
  refine va_new (ci := 12) (fs := [.null, .int 0, .int 0, .int 0, .int 0, .int 0, .int 0, .long 0, .int 0, .int 0, .int 0, .int 0, .int 0, .int 0, .null, .null, .null, .null, .null, .null, .null, .null, .null, .null, .null, .null, .null, .null, .null, .null, .null, .null, .null, .int 0, .int 0, .int 0, .null, .null, .null, .null, .null, .int 0, .int 0, .null, .int 0, .int 0, .null, .null, .null, .null, .null, .null, .null, .int 0, .int 0, .long 0, .null, .null, .null, .null, .null, .int 0, .null, .null, .null, .null, .null, .int 0]) (C := RX12) (T := TX12) (N := 68) hx hb htg inX12 tyX12 tyX12_ok hown (htg _ nY.2.2.1) (htg _ nY.2.2.2.1) (htg _ nY.2.2.2.2.1) hK hWX.1 hDX hS hA rfl fsX12 (Nat.le_of_ble_eq_true rfl) (Nat.le_of_ble_eq_true rfl) dL_law_8 (fun q8v H2 hP2 hD2 hS => ?_)
  have hlen : (wl LX cy ax M1).length = 90 := by unfold wl; rw [List.length_map, List.length_range]; rfl
  have hlast : (wl LX cy ax M1 ++ [(q8v, .inr (12, [.null, .int 0, .int 0, .int 0, .int 0, .int 0, .int 0, .long 0, .int 0, .int 0, .int 0, .int 0, .int 0, .int 0, .null, .null, .null, .null, .null, .null, .null, .null, .null, .null, .null, .null, .null, .null, .null, .null, .null, .null, .null, .int 0, .int 0, .int 0, .null, .null, .null, .null, .null, .int 0, .int 0, .null, .int 0, .int 0, .null, .null, .null, .null, .null, .null, .null, .int 0, .int 0, .long 0, .null, .null, .null, .null, .null, .int 0, .null, .null, .null, .null, .null, .int 0]))])[90]? = some (q8v, .inr (12, [.null, .int 0, .int 0, .int 0, .int 0, .int 0, .int 0, .long 0, .int 0, .int 0, .int 0, .int 0, .int 0, .int 0, .null, .null, .null, .null, .null, .null, .null, .null, .null, .null, .null, .null, .null, .null, .null, .null, .null, .null, .null, .int 0, .int 0, .int 0, .null, .null, .null, .null, .null, .int 0, .int 0, .null, .int 0, .int 0, .null, .null, .null, .null, .null, .null, .null, .int 0, .int 0, .long 0, .null, .null, .null, .null, .null, .int 0, .null, .null, .null, .null, .null, .int 0])) := by rw [List.getElem?_append_right (by rw [hlen]; exact Nat.le_refl _), hlen]; rfl
  have hfirst : ∀ (k : Nat) (q : Nat × va_E), (wl LX cy ax M1)[k]? = some q → (wl LX cy ax M1 ++ [(q8v, .inr (12, [.null, .int 0, .int 0, .int 0, .int 0, .int 0, .int 0, .long 0, .int 0, .int 0, .int 0, .int 0, .int 0, .int 0, .null, .null, .null, .null, .null, .null, .null, .null, .null, .null, .null, .null, .null, .null, .null, .null, .null, .null, .null, .int 0, .int 0, .int 0, .null, .null, .null, .null, .null, .int 0, .int 0, .null, .int 0, .int 0, .null, .null, .null, .null, .null, .null, .null, .int 0, .int 0, .long 0, .null, .null, .null, .null, .null, .int 0, .null, .null, .null, .null, .null, .int 0]))])[k]? = some q := fun k q hk => by
    rw [List.getElem?_append_left (List.getElem?_eq_some_iff.mp hk).1]; exact hk
  have hPX2 : va_P D vwCl (wl LX cy ax M1) H2 := fun k q hk => hP2 k q (hfirst k q hk)
  have hPY : va_P D vwCl [(q8v, .inr (12, [.null, .int 0, .int 0, .int 0, .int 0, .int 0, .int 0, .long 0, .int 0, .int 0, .int 0, .int 0, .int 0, .int 0, .null, .null, .null, .null, .null, .null, .null, .null, .null, .null, .null, .null, .null, .null, .null, .null, .null, .null, .null, .int 0, .int 0, .int 0, .null, .null, .null, .null, .null, .int 0, .int 0, .null, .int 0, .int 0, .null, .null, .null, .null, .null, .null, .null, .int 0, .int 0, .long 0, .null, .null, .null, .null, .null, .int 0, .null, .null, .null, .null, .null, .int 0]))] H2 := fun k q hk => by
    have hz : k < 1 := (List.getElem?_eq_some_iff.mp hk).1
    rw [show k = 0 by omega] at hk
    cases hk
    exact hP2 90 _ hlast
  have hq8 : s.heap.size ≤ q8v := hD2.2 90 _ hlast
  have hDY : va_D (fun q : Nat => s.heap.size ≤ q) [(q8v, .inr (12, [.null, .int 0, .int 0, .int 0, .int 0, .int 0, .int 0, .long 0, .int 0, .int 0, .int 0, .int 0, .int 0, .int 0, .null, .null, .null, .null, .null, .null, .null, .null, .null, .null, .null, .null, .null, .null, .null, .null, .null, .null, .null, .int 0, .int 0, .int 0, .null, .null, .null, .null, .null, .int 0, .int 0, .null, .int 0, .int 0, .null, .null, .null, .null, .null, .null, .null, .int 0, .int 0, .long 0, .null, .null, .null, .null, .null, .int 0, .null, .null, .null, .null, .null, .int 0]))] := ⟨fun i j p q hi hj _ => by
    have h1 : i < 1 := (List.getElem?_eq_some_iff.mp hi).1
    have h2 : j < 1 := (List.getElem?_eq_some_iff.mp hj).1
    omega, fun k q hk => by
    have hz : k < 1 := (List.getElem?_eq_some_iff.mp hk).1
    rw [show k = 0 by omega] at hk
    cases hk
    exact hq8⟩
  have hxq : ∀ i, i < 90 → ax i ≠ q8v := fun i hi h => by
    have h9 := hD2.1 i 90 _ _ (hfirst i _ (wl_get (G := LX) hi)) hlast h
    omega
  have hxl : ∀ i, i < 90 → ax i < H2.size := fun i hi => (hPX2 i _ (wl_get (G := LX) hi)).lt
  refine lv_dup hx hb dL_law_11 rfl ?_
  have hFy := va_free (wc := [(q8v, .inr (12, [.null, .int 0, .int 0, .int 0, .int 0, .int 0, .int 0, .long 0, .int 0, .int 0, .int 0, .int 0, .int 0, .int 0, .null, .null, .null, .null, .null, .null, .null, .null, .null, .null, .null, .null, .null, .null, .null, .null, .null, .null, .null, .int 0, .int 0, .int 0, .null, .null, .null, .null, .null, .int 0, .int 0, .null, .int 0, .int 0, .null, .null, .null, .null, .null, .null, .null, .int 0, .int 0, .long 0, .null, .null, .null, .null, .null, .int 0, .null, .null, .null, .null, .null, .int 0]))]) hDY hS hA [0] rfl
  refine va_callv (va_runI (As := []) (rest := [.ref q8v]) ⟨hx, hb, hml, hown, htg⟩ (ccX12_init (l := l) (D := D) (cy := cy) (B0 := s.heap.size) (ka := ka) (va := va) q8v H2.size) ⟨callB_of 0 htg (gd_all mdX12_init) rfl rfl rfl (htg _ w137) (htg _ w1238) mdX12_init.2.2.1 ⟨(Nat.le_of_ble_eq_true rfl), (Nat.le_of_ble_eq_true rfl)⟩, rfl, htg _ w1239⟩ ⟨CC_blind, fun U hU hW => ⟨rfl, by rw [hU], by rw [hU]; exact hPY, va_K.moved hW.alike hK, hDY.weaken (fun _ _ _ _ => trivial), EX.st hW (fun a h1 h2 => by rw [hU]; exact hS.2.1 a h1 h2) hE, fun q h => hFy q h⟩⟩ rfl rfl hl.1 rfl (lv_room (Nat.le_of_ble_eq_true rfl)) dL_law_12 ⟨(Nat.le_of_ble_eq_true rfl), (Nat.le_of_ble_eq_true rfl)⟩) hS (fun q _ h => hFy q h) hFy (fun u t2 H3 locs3 ht2 hvm2 hw2 hB2 hz2 hk2 hS => ?_)
  obtain ⟨hP3, hK3, hD3⟩ := hB2
  rw [ht2] at hP3
  have ey : [(q8v, .inr (12, [.ref (u 0), .int 0, .int 0, .int 0, .int 0, .int 0, .int 0, .long 0, .int 0, .int (-1), .int 0, .int (-1), .int (-1), .int 0, .ref (u 1), .ref (u 2), .ref (u 3), .ref (u 4), .ref (u 5), .ref (u 6), .ref (u 7), .ref (u 8), .ref (u 9), .ref (u 10), .ref (u 11), .ref (u 12), .ref (u 13), .ref (u 14), .ref (u 15), .ref (u 16), .ref (u 17), .ref (u 18), .ref (u 19), .int 0, .int 1, .int 0, .ref (u 20), .ref (u 21), .ref (u 22), .ref (u 23), .ref (u 24), .int 0, .int 0, .ref (u 25), .int 0, .int 0, .ref (u 26), .ref (u 27), .ref (u 28), .ref (u 29), .ref (u 30), .ref (u 31), .ref (u 32), .int 0, .int 0, .long 1, .ref (u 33), .ref (u 34), .ref (u 35), .ref (u 36), .ref (u 37), .int 0, .ref (u 38), .ref (u 39), .ref (u 40), .ref (u 41), .ref (u 42), .int 0])), ((u 0), .inl (cy 0, 1800, .inl (fun _ => 0))), ((u 1), .inl (cy 0, 2, .inl (fun _ => 0))), ((u 2), .inl (cy 0, 12, .inl (fun _ => 0))), ((u 3), .inl (cy 0, 12, .inl (fun _ => 0))), ((u 4), .inl (cy 0, 2, .inl (fun _ => 0))), ((u 5), .inl (cy 0, 10, .inl (fun _ => 0))), ((u 6), .inl (cy 0, 2, .inl (fun _ => 0))), ((u 7), .inl (cy 0, 50, .inl (fun _ => 0))), ((u 8), .inl (cy 0, 50, .inl (fun _ => 0))), ((u 9), .inl (cy 0, 2, .inl (fun _ => 0))), ((u 10), .inl (cy 0, 12, .inl (fun _ => 0))), ((u 11), .inl (cy 0, 12, .inl (fun _ => 0))), ((u 12), .inl (cy 0, 2, .inl (fun _ => 0))), ((u 13), .inl (cy 0, 4, .inl (upd (upd (upd (upd (fun _ => 0) 0 (-1)) 1 (-1)) 2 (-1)) 3 (-1)))), ((u 14), .inl (cy 0, 4, .inl (fun _ => 0))), ((u 15), .inl (cy 0, 3200, .inl (fun _ => 0))), ((u 16), .inl (cy 0, 3200, .inl (fun _ => 0))), ((u 17), .inl (cy 1, 12, .inr (.inl (fun _ => 0)))), ((u 18), .inl (cy 1, 10, .inr (.inl (fun _ => 0)))), ((u 19), .inl (cy 1, 12, .inr (.inl (fun _ => 0)))), ((u 20), .inl (cy 0, 20, .inl (fun _ => 0))), ((u 21), .inl (cy 0, 20, .inl (fun _ => 0))), ((u 22), .inl (cy 2, 20, .inl (fun _ => 0))), ((u 23), .inl (cy 0, 20, .inl (fun _ => 0))), ((u 24), .inl (cy 0, 20, .inl (fun _ => 0))), ((u 25), .inl (cy 0, 500, .inl (fun _ => 0))), ((u 26), .inl (cy 0, 6, .inl (fun _ => 0))), ((u 27), .inl (cy 0, 22, .inl (fun _ => 0))), ((u 28), .inl (cy 0, 110, .inl (fun _ => 0))), ((u 29), .inl (cy 0, 110, .inl (fun _ => 0))), ((u 30), .inl (cy 0, 22, .inl (fun _ => 0))), ((u 31), .inl (cy 0, 22, .inl (fun _ => 0))), ((u 32), .inl (cy 0, 1760, .inl (fun _ => 0))), ((u 33), .inl (cy 1, 500, .inr (.inl (fun _ => 0)))), ((u 34), .inl (cy 0, 10, .inl (fun _ => 0))), ((u 35), .inl (cy 0, 5, .inl (fun _ => 0))), ((u 36), .inl (cy 0, 5, .inl (fun _ => 0))), ((u 37), .inl (cy 0, 61, .inl (fun _ => 0))), ((u 38), .inl (cy 0, 16, .inl (fun _ => 0))), ((u 39), .inl (cy 0, 16, .inl (fun _ => 0))), ((u 40), .inl (cy 0, 16, .inl (fun _ => 0))), ((u 41), .inl (cy 0, 287, .inl (fun _ => 0))), ((u 42), .inl (cy 0, 40, .inl (fun _ => 0)))] = wl LY cy (fun k => match k with | 0 => q8v | k + 1 => u k) MY0 := rfl
  generalize hay : (fun k : Nat => match k with | 0 => q8v | k + 1 => u k) = ay at ey
  have hP3 : va_P D vwCl (wl LY cy ay MY0) H3 := by rw [← ey]; exact hP3
  have hD3 : va_D (va_A [(q8v, .inr (12, [.null, .int 0, .int 0, .int 0, .int 0, .int 0, .int 0, .long 0, .int 0, .int 0, .int 0, .int 0, .int 0, .int 0, .null, .null, .null, .null, .null, .null, .null, .null, .null, .null, .null, .null, .null, .null, .null, .null, .null, .null, .null, .int 0, .int 0, .int 0, .null, .null, .null, .null, .null, .int 0, .int 0, .null, .int 0, .int 0, .null, .null, .null, .null, .null, .null, .null, .int 0, .int 0, .long 0, .null, .null, .null, .null, .null, .int 0, .null, .null, .null, .null, .null, .int 0]))] H2.size) (wl LY cy ay MY0) := by rw [← ey]; exact hD3
  have hay0 : ay 0 = q8v := by rw [← hay]
  have hIY : Inj LY ay := fun i j hi hj h => hD3.1 i j _ _ (wl_get hi) (wl_get hj) h
  have hayA : ∀ k, k < 44 → va_A [(q8v, .inr (12, [.null, .int 0, .int 0, .int 0, .int 0, .int 0, .int 0, .long 0, .int 0, .int 0, .int 0, .int 0, .int 0, .int 0, .null, .null, .null, .null, .null, .null, .null, .null, .null, .null, .null, .null, .null, .null, .null, .null, .null, .null, .null, .int 0, .int 0, .int 0, .null, .null, .null, .null, .null, .int 0, .int 0, .null, .int 0, .int 0, .null, .null, .null, .null, .null, .null, .null, .int 0, .int 0, .long 0, .null, .null, .null, .null, .null, .int 0, .null, .null, .null, .null, .null, .int 0]))] H2.size (ay k) := fun k hk => hD3.2 k _ (wl_get (G := LY) hk)
  have hyq : ∀ q, va_A [(q8v, .inr (12, [.null, .int 0, .int 0, .int 0, .int 0, .int 0, .int 0, .long 0, .int 0, .int 0, .int 0, .int 0, .int 0, .int 0, .null, .null, .null, .null, .null, .null, .null, .null, .null, .null, .null, .null, .null, .null, .null, .null, .null, .null, .null, .int 0, .int 0, .int 0, .null, .null, .null, .null, .null, .int 0, .int 0, .null, .int 0, .int 0, .null, .null, .null, .null, .null, .null, .null, .int 0, .int 0, .long 0, .null, .null, .null, .null, .null, .int 0, .null, .null, .null, .null, .null, .int 0]))] H2.size q → q = q8v ∨ H2.size ≤ q := fun q h => by
    rcases h with ⟨k, e9, hk⟩ | h
    · have hz : k < 1 := (List.getElem?_eq_some_iff.mp hk).1
      rw [show k = 0 by omega] at hk
      cases hk
      exact Or.inl rfl
    · exact Or.inr h
  have hdis : ∀ i j, i < 90 → j < 44 → ax i ≠ ay j := fun i j hi hj h => by
    have h1 := hxl i hi
    rcases hyq _ (hayA j hj) with h9 | h9
    · exact hxq i hi (h.trans h9)
    · rw [h] at h1; omega
  have hWX3 : WD LX D cy ax M1 H3 := ⟨hPX2.kept (fun k q hk => by
    obtain ⟨h1, rfl⟩ := wl_at hk
    refine hk2 _ (hxl k h1) (fun h9 => ?_)
    rcases hyq _ h9 with h8 | h8
    · exact hxq k h1 h8
    · have := hxl k h1; omega), hWX.2⟩
  refine lv_astore_n (lv' := [(2, .ref q8v), (1, .ref q0v), (0, .ref b)]) hx hb dL_law_15 rfl hl (by decide) rfl (fun ls hl => ?_)
  refine lv_iconst (v := 0) hx hb dL_law_16 (by decide) ?_
  refine lv_istore_n (lv' := [(3, .int 0), (2, .ref q8v), (1, .ref q0v), (0, .ref b)]) hx hb dL_law_17 rfl hl (by decide) rfl (fun ls hl => ?_)
  have hO : OKl p s m meth c b L xs D cy ax ay := ⟨hx, hb, hml, hown, htg, hK, hIX, hIY, hdis, haxs, fun j hj => hFy _ (hayA j hj), hX, hbl, hlocks, hr⟩
  have hgo := law_loop (l := l) (e := e) (below := below) (cells := 134) (slots := 21413) n0 hO hL (Nat.le_of_ble_eq_true rfl) (Nat.le_of_ble_eq_true rfl) w 0 M1 MY0 (Nat.zero_le _) hlaw
  rw [hax0, hay0] at hgo
  exact hgo H3 _ ls hWX3 ⟨hP3, MY0_wf⟩ hS (lv_sub hl [3, 2, 1, 0] rfl)
end
