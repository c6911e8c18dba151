section
-- ===== PART A: goes FIRST, ahead of the names: the tables' words, and 'selects' of the private methods out of them =====
/-- a private method of a class that the tables say can be made, by its rows of tables_1 -/
def lw_okq (q : MethodName × Nat) : Prop := (q.1.cls ≠ "java/lang/invoke/MethodHandle" ∧ q.1.cls ≠ "java/lang/invoke/VarHandle") ∧ Cond.instantiable q.1.cls q.2 ∈ tables_1 ∧ Cond.privateMethod q.1 ∈ tables_1 ∧ Cond.instanceMethod q.1 ∈ tables_1
def okqB (x : (MethodName × Nat) × (Nat × Nat × Nat)) : Bool := decide (x.1.1.cls ≠ "java/lang/invoke/MethodHandle") && (decide (x.1.1.cls ≠ "java/lang/invoke/VarHandle") && (decide (tables_1[x.2.1]? = some (Cond.instantiable x.1.1.cls x.1.2)) && (decide (tables_1[x.2.2.1]? = some (Cond.privateMethod x.1.1)) && decide (tables_1[x.2.2.2]? = some (Cond.instanceMethod x.1.1)))))
theorem okqB_g {x : (MethodName × Nat) × (Nat × Nat × Nat)} (h : okqB x = true) : lw_okq x.1 := by
  unfold okqB at h
  rw [Bool.and_eq_true, Bool.and_eq_true, Bool.and_eq_true, Bool.and_eq_true] at h
  obtain ⟨h1, h2, h3, h4, h5⟩ := h
  exact ⟨⟨of_decide_eq_true h1, of_decide_eq_true h2⟩, List.mem_of_getElem? (of_decide_eq_true h3), List.mem_of_getElem? (of_decide_eq_true h4), List.mem_of_getElem? (of_decide_eq_true h5)⟩
theorem okqL (l : List ((MethodName × Nat) × (Nat × Nat × Nat))) (h : l.all okqB = true) : ∀ q ∈ l.map Prod.fst, lw_okq q := fun q hq => by
  obtain ⟨x, x1, x2⟩ := List.mem_map.mp hq
  rw [← x2]
  exact okqB_g (List.all_eq_true.mp h x x1)
def lw_privs_1 : List (MethodName × Nat) := [(⟨"PalmHours", "begin", "()V"⟩, 18), (⟨"PalmHours$State", "isDue", "(ILPalmHours$Palm;)Z"⟩, 8), (⟨"PalmHours$Palm", "valueOf", "(LPalmHours$Formula;)I"⟩, 8), (⟨"PalmHours$Palm", "join", "(I)V"⟩, 8), (⟨"PalmHours$State", "keep", "(I)V"⟩, 8), (⟨"PalmHours", "refuse", "(I)I"⟩, 18), (⟨"PalmHours$Tokens", "isWordOrNumber", "()Z"⟩, 9), (⟨"PalmHours$Tokens", "skipBlanks", "()V"⟩, 9), (⟨"PalmHours$Tokens", "readWord", "()V"⟩, 9), (⟨"PalmHours$Tokens", "kindOf", "(I)I"⟩, 9), (⟨"PalmHours$Tokens", "readNumber", "()V"⟩, 9), (⟨"PalmHours$Reader", "readStatement", "()Z"⟩, 3), (⟨"PalmHours$Reader", "skipFirst", "(Z)Z"⟩, 3), (⟨"PalmHours$Reader", "readThing", "()Z"⟩, 3), (⟨"PalmHours$Reader", "newName", "()I"⟩, 3), (⟨"PalmHours$Reader", "number", "(II)I"⟩, 3)]
def lw_prix_1 : List ((MethodName × Nat) × (Nat × Nat × Nat)) := [((⟨"PalmHours", "begin", "()V"⟩, 18), 21, 422, 423), ((⟨"PalmHours$State", "isDue", "(ILPalmHours$Palm;)Z"⟩, 8), 328, 438, 439), ((⟨"PalmHours$Palm", "valueOf", "(LPalmHours$Formula;)I"⟩, 8), 292, 454, 455), ((⟨"PalmHours$Palm", "join", "(I)V"⟩, 8), 292, 462, 463), ((⟨"PalmHours$State", "keep", "(I)V"⟩, 8), 328, 486, 487), ((⟨"PalmHours", "refuse", "(I)I"⟩, 18), 21, 553, 554), ((⟨"PalmHours$Tokens", "isWordOrNumber", "()Z"⟩, 9), 170, 585, 586), ((⟨"PalmHours$Tokens", "skipBlanks", "()V"⟩, 9), 170, 589, 590), ((⟨"PalmHours$Tokens", "readWord", "()V"⟩, 9), 170, 600, 601), ((⟨"PalmHours$Tokens", "kindOf", "(I)I"⟩, 9), 170, 604, 605), ((⟨"PalmHours$Tokens", "readNumber", "()V"⟩, 9), 170, 611, 612), ((⟨"PalmHours$Reader", "readStatement", "()Z"⟩, 3), 164, 615, 616), ((⟨"PalmHours$Reader", "skipFirst", "(Z)Z"⟩, 3), 164, 619, 620), ((⟨"PalmHours$Reader", "readThing", "()Z"⟩, 3), 164, 628, 629), ((⟨"PalmHours$Reader", "newName", "()I"⟩, 3), 164, 632, 633), ((⟨"PalmHours$Reader", "number", "(II)I"⟩, 3), 164, 661, 662)]
theorem lw_k1 : lw_prix_1.all okqB = true := by decide +kernel
theorem lw_r1 : ∀ q ∈ lw_privs_1, lw_okq q := okqL lw_prix_1 lw_k1
def lw_privs_2 : List (MethodName × Nat) := [(⟨"PalmHours$Reader", "readCorner", "()Z"⟩, 3), (⟨"PalmHours$Reader", "readRoad", "()Z"⟩, 3), (⟨"PalmHours$Reader", "cornerHere", "()I"⟩, 3), (⟨"PalmHours$Reader", "readPalm", "()Z"⟩, 3), (⟨"PalmHours$Reader", "readDoing", "()Z"⟩, 3), (⟨"PalmHours$Phrases", "readSum", "(I)Z"⟩, 3), (⟨"PalmHours$Phrases", "readProduct", "(I)Z"⟩, 3), (⟨"PalmHours$Phrases", "readPart", "(I)Z"⟩, 3), (⟨"PalmHours$Phrases", "addAndAdvance", "(I)Z"⟩, 3), (⟨"PalmHours$Phrases", "readPair", "(II)Z"⟩, 3), (⟨"PalmHours$Phrases", "goIn", "(II)Z"⟩, 3), (⟨"PalmHours$Phrases", "add", "(I)Z"⟩, 3), (⟨"PalmHours$Phrases", "readChoice", "(I)Z"⟩, 3), (⟨"PalmHours$Phrases", "readTest", "(I)Z"⟩, 3), (⟨"PalmHours$Phrases", "readBoth", "(I)Z"⟩, 3), (⟨"PalmHours$Phrases", "readFact", "(I)Z"⟩, 3)]
def lw_prix_2 : List ((MethodName × Nat) × (Nat × Nat × Nat)) := [((⟨"PalmHours$Reader", "readCorner", "()Z"⟩, 3), 164, 669, 670), ((⟨"PalmHours$Reader", "readRoad", "()Z"⟩, 3), 164, 677, 678), ((⟨"PalmHours$Reader", "cornerHere", "()I"⟩, 3), 164, 681, 682), ((⟨"PalmHours$Reader", "readPalm", "()Z"⟩, 3), 164, 693, 694), ((⟨"PalmHours$Reader", "readDoing", "()Z"⟩, 3), 164, 697, 698), ((⟨"PalmHours$Phrases", "readSum", "(I)Z"⟩, 3), 265, 710, 711), ((⟨"PalmHours$Phrases", "readProduct", "(I)Z"⟩, 3), 265, 714, 715), ((⟨"PalmHours$Phrases", "readPart", "(I)Z"⟩, 3), 265, 718, 719), ((⟨"PalmHours$Phrases", "addAndAdvance", "(I)Z"⟩, 3), 265, 722, 723), ((⟨"PalmHours$Phrases", "readPair", "(II)Z"⟩, 3), 265, 732, 733), ((⟨"PalmHours$Phrases", "goIn", "(II)Z"⟩, 3), 265, 736, 737), ((⟨"PalmHours$Phrases", "add", "(I)Z"⟩, 3), 265, 742, 743), ((⟨"PalmHours$Phrases", "readChoice", "(I)Z"⟩, 3), 265, 746, 747), ((⟨"PalmHours$Phrases", "readTest", "(I)Z"⟩, 3), 265, 750, 751), ((⟨"PalmHours$Phrases", "readBoth", "(I)Z"⟩, 3), 265, 754, 755), ((⟨"PalmHours$Phrases", "readFact", "(I)Z"⟩, 3), 265, 758, 759)]
theorem lw_k2 : lw_prix_2.all okqB = true := by decide +kernel
theorem lw_r2 : ∀ q ∈ lw_privs_2, lw_okq q := okqL lw_prix_2 lw_k2
def lw_privs_3 : List (MethodName × Nat) := [(⟨"PalmHours$Phrases", "readComparison", "(I)Z"⟩, 3), (⟨"PalmHours$Phrases", "comparisonStep", "()I"⟩, 3), (⟨"PalmHours$Phrases", "productStep", "()I"⟩, 3), (⟨"PalmHours$Phrases", "sumStep", "()I"⟩, 3), (⟨"PalmHours$Reader", "readPass", "()Z"⟩, 3), (⟨"PalmHours", "hourAt", "(I)I"⟩, 18), (⟨"PalmHours", "lookAt", "(I)V"⟩, 18), (⟨"PalmHours", "isBeyond", "(I)Z"⟩, 18), (⟨"PalmHours", "foresee", "(I[II)I"⟩, 18), (⟨"PalmHours", "planNothing", "(II)Z"⟩, 18), (⟨"PalmHours", "doesWithout", "(IIII)Z"⟩, 18), (⟨"PalmHours", "doesAll", "(IIII)Z"⟩, 18), (⟨"PalmHours", "tellsWithin", "(III)Z"⟩, 18), (⟨"PalmHours", "planNeeded", "(II)Z"⟩, 18), (⟨"PalmHours", "findGiving", "(III)I"⟩, 18), (⟨"PalmHours", "countPlanned", "()I"⟩, 18)]
def lw_prix_3 : List ((MethodName × Nat) × (Nat × Nat × Nat)) := [((⟨"PalmHours$Phrases", "readComparison", "(I)Z"⟩, 3), 265, 762, 763), ((⟨"PalmHours$Phrases", "comparisonStep", "()I"⟩, 3), 265, 766, 767), ((⟨"PalmHours$Phrases", "productStep", "()I"⟩, 3), 265, 770, 771), ((⟨"PalmHours$Phrases", "sumStep", "()I"⟩, 3), 265, 774, 775), ((⟨"PalmHours$Reader", "readPass", "()Z"⟩, 3), 164, 782, 783), ((⟨"PalmHours", "hourAt", "(I)I"⟩, 18), 21, 826, 827), ((⟨"PalmHours", "lookAt", "(I)V"⟩, 18), 21, 830, 831), ((⟨"PalmHours", "isBeyond", "(I)Z"⟩, 18), 21, 844, 845), ((⟨"PalmHours", "foresee", "(I[II)I"⟩, 18), 21, 848, 849), ((⟨"PalmHours", "planNothing", "(II)Z"⟩, 18), 21, 873, 874), ((⟨"PalmHours", "doesWithout", "(IIII)Z"⟩, 18), 21, 877, 878), ((⟨"PalmHours", "doesAll", "(IIII)Z"⟩, 18), 21, 881, 882), ((⟨"PalmHours", "tellsWithin", "(III)Z"⟩, 18), 21, 885, 886), ((⟨"PalmHours", "planNeeded", "(II)Z"⟩, 18), 21, 889, 890), ((⟨"PalmHours", "findGiving", "(III)I"⟩, 18), 21, 893, 894), ((⟨"PalmHours", "countPlanned", "()I"⟩, 18), 21, 897, 898)]
theorem lw_k3 : lw_prix_3.all okqB = true := by decide +kernel
theorem lw_r3 : ∀ q ∈ lw_privs_3, lw_okq q := okqL lw_prix_3 lw_k3
def lw_privs_4 : List (MethodName × Nat) := [(⟨"PalmHours", "planAnywhere", "(II)Z"⟩, 18), (⟨"PalmHours", "countStaying", "(II)I"⟩, 18), (⟨"PalmHours", "countRowsOfOne", "(I)J"⟩, 18), (⟨"PalmHours", "countRowsWithout", "()J"⟩, 18), (⟨"PalmHours", "countRowsOfTwo", "(I)J"⟩, 18), (⟨"PalmHours$Walks", "shorten", "(III)V"⟩, 2), (⟨"PalmHours", "findHeld", "(I)I"⟩, 18), (⟨"PalmHours", "letPass", "()I"⟩, 18), (⟨"PalmHours", "draw", "(I)I"⟩, 18), (⟨"PalmHours", "putByAct", "(II)I"⟩, 18), (⟨"PalmHours$State", "imageSize", "()I"⟩, 8), (⟨"PalmHoursModel", "refuses", "(I)I"⟩, 68), (⟨"PalmHoursModel", "put", "(I)V"⟩, 68), (⟨"PalmHoursModel", "at", "(III)I"⟩, 68), (⟨"PalmHoursModel", "ahead", "()V"⟩, 68), (⟨"PalmHoursModel", "statement", "()V"⟩, 68)]
def lw_prix_4 : List ((MethodName × Nat) × (Nat × Nat × Nat)) := [((⟨"PalmHours", "planAnywhere", "(II)Z"⟩, 18), 21, 901, 902), ((⟨"PalmHours", "countStaying", "(II)I"⟩, 18), 21, 909, 910), ((⟨"PalmHours", "countRowsOfOne", "(I)J"⟩, 18), 21, 919, 920), ((⟨"PalmHours", "countRowsWithout", "()J"⟩, 18), 21, 924, 925), ((⟨"PalmHours", "countRowsOfTwo", "(I)J"⟩, 18), 21, 928, 929), ((⟨"PalmHours$Walks", "shorten", "(III)V"⟩, 2), 385, 941, 942), ((⟨"PalmHours", "findHeld", "(I)I"⟩, 18), 21, 980, 981), ((⟨"PalmHours", "letPass", "()I"⟩, 18), 21, 1032, 1033), ((⟨"PalmHours", "draw", "(I)I"⟩, 18), 21, 1036, 1037), ((⟨"PalmHours", "putByAct", "(II)I"⟩, 18), 21, 1048, 1049), ((⟨"PalmHours$State", "imageSize", "()I"⟩, 8), 328, 1084, 1085), ((⟨"PalmHoursModel", "refuses", "(I)I"⟩, 68), 1118, 1335, 1336), ((⟨"PalmHoursModel", "put", "(I)V"⟩, 68), 1118, 1339, 1340), ((⟨"PalmHoursModel", "at", "(III)I"⟩, 68), 1118, 1351, 1352), ((⟨"PalmHoursModel", "ahead", "()V"⟩, 68), 1118, 1355, 1356), ((⟨"PalmHoursModel", "statement", "()V"⟩, 68), 1118, 1365, 1366)]
theorem lw_k4 : lw_prix_4.all okqB = true := by decide +kernel
theorem lw_r4 : ∀ q ∈ lw_privs_4, lw_okq q := okqL lw_prix_4 lw_k4
def lw_privs_5 : List (MethodName × Nat) := [(⟨"PalmHoursModel", "lex", "()V"⟩, 68), (⟨"PalmHoursModel", "blame", "(II)V"⟩, 68), (⟨"PalmHoursModel", "isWord", "(J)Z"⟩, 68), (⟨"PalmHoursModel", "thinging", "()V"⟩, 68), (⟨"PalmHoursModel", "counts", "(Z)Z"⟩, 68), (⟨"PalmHoursModel", "fresh", "()J"⟩, 68), (⟨"PalmHoursModel", "isOwn", "(J)Z"⟩, 68), (⟨"PalmHoursModel", "named", "(IJ)I"⟩, 68), (⟨"PalmHoursModel", "manyOf", "(II)I"⟩, 68), (⟨"PalmHoursModel", "nameOf", "(III)J"⟩, 68), (⟨"PalmHoursModel", "must", "(J)V"⟩, 68), (⟨"PalmHoursModel", "number", "(II)I"⟩, 68), (⟨"PalmHoursModel", "cornering", "()V"⟩, 68), (⟨"PalmHoursModel", "roading", "()V"⟩, 68), (⟨"PalmHoursModel", "knownBut", "(II)I"⟩, 68), (⟨"PalmHoursModel", "palming", "()V"⟩, 68)]
def lw_prix_5 : List ((MethodName × Nat) × (Nat × Nat × Nat)) := [((⟨"PalmHoursModel", "lex", "()V"⟩, 68), 1118, 1369, 1370), ((⟨"PalmHoursModel", "blame", "(II)V"⟩, 68), 1118, 1373, 1374), ((⟨"PalmHoursModel", "isWord", "(J)Z"⟩, 68), 1118, 1378, 1379), ((⟨"PalmHoursModel", "thinging", "()V"⟩, 68), 1118, 1382, 1383), ((⟨"PalmHoursModel", "counts", "(Z)Z"⟩, 68), 1118, 1386, 1387), ((⟨"PalmHoursModel", "fresh", "()J"⟩, 68), 1118, 1390, 1391), ((⟨"PalmHoursModel", "isOwn", "(J)Z"⟩, 68), 1118, 1394, 1395), ((⟨"PalmHoursModel", "named", "(IJ)I"⟩, 68), 1118, 1422, 1423), ((⟨"PalmHoursModel", "manyOf", "(II)I"⟩, 68), 1118, 1426, 1427), ((⟨"PalmHoursModel", "nameOf", "(III)J"⟩, 68), 1118, 1430, 1431), ((⟨"PalmHoursModel", "must", "(J)V"⟩, 68), 1118, 1434, 1435), ((⟨"PalmHoursModel", "number", "(II)I"⟩, 68), 1118, 1438, 1439), ((⟨"PalmHoursModel", "cornering", "()V"⟩, 68), 1118, 1445, 1446), ((⟨"PalmHoursModel", "roading", "()V"⟩, 68), 1118, 1449, 1450), ((⟨"PalmHoursModel", "knownBut", "(II)I"⟩, 68), 1118, 1453, 1454), ((⟨"PalmHoursModel", "palming", "()V"⟩, 68), 1118, 1460, 1461)]
theorem lw_k5 : lw_prix_5.all okqB = true := by decide +kernel
theorem lw_r5 : ∀ q ∈ lw_privs_5, lw_okq q := okqL lw_prix_5 lw_k5
def lw_privs_6 : List (MethodName × Nat) := [(⟨"PalmHoursModel", "doings", "()V"⟩, 68), (⟨"PalmHoursModel", "reading", "(I)V"⟩, 68), (⟨"PalmHoursModel", "reads", "(Z)V"⟩, 68), (⟨"PalmHoursModel", "pushes", "(I)V"⟩, 68), (⟨"PalmHoursModel", "operand", "()Z"⟩, 68), (⟨"PalmHoursModel", "holdsBack", "(I)V"⟩, 68), (⟨"PalmHoursModel", "isSign", "(I)Z"⟩, 68), (⟨"PalmHoursModel", "opens", "(I)V"⟩, 68), (⟨"PalmHoursModel", "add", "(II)V"⟩, 68), (⟨"PalmHoursModel", "goesOn", "()Z"⟩, 68), (⟨"PalmHoursModel", "joins", "(I)V"⟩, 68), (⟨"PalmHoursModel", "passing", "()V"⟩, 68), (⟨"PalmHoursModel", "finishes", "(I)V"⟩, 68), (⟨"PalmHoursModel", "must", "(I)V"⟩, 68), (⟨"PalmHoursModel", "measures", "()V"⟩, 68), (⟨"PalmHoursModel", "begin", "()V"⟩, 68)]
def lw_prix_6 : List ((MethodName × Nat) × (Nat × Nat × Nat)) := [((⟨"PalmHoursModel", "doings", "()V"⟩, 68), 1118, 1464, 1465), ((⟨"PalmHoursModel", "reading", "(I)V"⟩, 68), 1118, 1468, 1469), ((⟨"PalmHoursModel", "reads", "(Z)V"⟩, 68), 1118, 1472, 1473), ((⟨"PalmHoursModel", "pushes", "(I)V"⟩, 68), 1118, 1476, 1477), ((⟨"PalmHoursModel", "operand", "()Z"⟩, 68), 1118, 1480, 1481), ((⟨"PalmHoursModel", "holdsBack", "(I)V"⟩, 68), 1118, 1487, 1488), ((⟨"PalmHoursModel", "isSign", "(I)Z"⟩, 68), 1118, 1491, 1492), ((⟨"PalmHoursModel", "opens", "(I)V"⟩, 68), 1118, 1495, 1496), ((⟨"PalmHoursModel", "add", "(II)V"⟩, 68), 1118, 1499, 1500), ((⟨"PalmHoursModel", "goesOn", "()Z"⟩, 68), 1118, 1503, 1504), ((⟨"PalmHoursModel", "joins", "(I)V"⟩, 68), 1118, 1507, 1508), ((⟨"PalmHoursModel", "passing", "()V"⟩, 68), 1118, 1514, 1515), ((⟨"PalmHoursModel", "finishes", "(I)V"⟩, 68), 1118, 1518, 1519), ((⟨"PalmHoursModel", "must", "(I)V"⟩, 68), 1118, 1522, 1523), ((⟨"PalmHoursModel", "measures", "()V"⟩, 68), 1118, 1526, 1527), ((⟨"PalmHoursModel", "begin", "()V"⟩, 68), 1118, 1531, 1532)]
theorem lw_k6 : lw_prix_6.all okqB = true := by decide +kernel
theorem lw_r6 : ∀ q ∈ lw_privs_6, lw_okq q := okqL lw_prix_6 lw_k6
def lw_privs_7 : List (MethodName × Nat) := [(⟨"PalmHoursModel", "finishesDoings", "(I)I"⟩, 68), (⟨"PalmHoursModel", "hour", "(II)I"⟩, 68), (⟨"PalmHoursModel", "lays", "(II)V"⟩, 68), (⟨"PalmHoursModel", "isTold", "(I)Z"⟩, 68), (⟨"PalmHoursModel", "reckons", "(I)J"⟩, 68), (⟨"PalmHoursModel", "writesDown", "(II)V"⟩, 68), (⟨"PalmHoursModel", "slot", "(I)I"⟩, 68), (⟨"PalmHoursModel", "copies", "(II)V"⟩, 68), (⟨"PalmHoursModel", "isThing", "(I)Z"⟩, 68), (⟨"PalmHoursModel", "isCorner", "(I)Z"⟩, 68), (⟨"PalmHoursModel", "isDoing", "(I)Z"⟩, 68), (⟨"PalmHoursModel", "isAhead", "(III)Z"⟩, 68), (⟨"PalmHoursModel", "passes", "(I)I"⟩, 68), (⟨"PalmHoursModel", "ticks", "(I)V"⟩, 68), (⟨"PalmHoursModel", "isGone", "(II)Z"⟩, 68), (⟨"PalmHoursModel", "puts", "(III)V"⟩, 68)]
def lw_prix_7 : List ((MethodName × Nat) × (Nat × Nat × Nat)) := [((⟨"PalmHoursModel", "finishesDoings", "(I)I"⟩, 68), 1118, 1535, 1536), ((⟨"PalmHoursModel", "hour", "(II)I"⟩, 68), 1118, 1539, 1540), ((⟨"PalmHoursModel", "lays", "(II)V"⟩, 68), 1118, 1543, 1544), ((⟨"PalmHoursModel", "isTold", "(I)Z"⟩, 68), 1118, 1547, 1548), ((⟨"PalmHoursModel", "reckons", "(I)J"⟩, 68), 1118, 1551, 1552), ((⟨"PalmHoursModel", "writesDown", "(II)V"⟩, 68), 1118, 1567, 1568), ((⟨"PalmHoursModel", "slot", "(I)I"⟩, 68), 1118, 1583, 1584), ((⟨"PalmHoursModel", "copies", "(II)V"⟩, 68), 1118, 1587, 1588), ((⟨"PalmHoursModel", "isThing", "(I)Z"⟩, 68), 1118, 1607, 1608), ((⟨"PalmHoursModel", "isCorner", "(I)Z"⟩, 68), 1118, 1615, 1616), ((⟨"PalmHoursModel", "isDoing", "(I)Z"⟩, 68), 1118, 1623, 1624), ((⟨"PalmHoursModel", "isAhead", "(III)Z"⟩, 68), 1118, 1631, 1632), ((⟨"PalmHoursModel", "passes", "(I)I"⟩, 68), 1118, 1635, 1636), ((⟨"PalmHoursModel", "ticks", "(I)V"⟩, 68), 1118, 1639, 1640), ((⟨"PalmHoursModel", "isGone", "(II)Z"⟩, 68), 1118, 1643, 1644), ((⟨"PalmHoursModel", "puts", "(III)V"⟩, 68), 1118, 1647, 1648)]
theorem lw_k7 : lw_prix_7.all okqB = true := by decide +kernel
theorem lw_r7 : ∀ q ∈ lw_privs_7, lw_okq q := okqL lw_prix_7 lw_k7
def lw_privs_8 : List (MethodName × Nat) := [(⟨"PalmHoursModel", "isDoneBy", "(II)Z"⟩, 68), (⟨"PalmHoursModel", "heldBits", "(I)I"⟩, 68), (⟨"PalmHoursModel", "keeps", "()V"⟩, 68), (⟨"PalmHoursModel", "draw", "(I)I"⟩, 68), (⟨"PalmHoursModel", "writes", "(I)V"⟩, 68), (⟨"PalmHoursModel", "comesOn", "(I)Z"⟩, 68), (⟨"PalmHoursModel", "cornerOn", "(II)Z"⟩, 68)]
def lw_prix_8 : List ((MethodName × Nat) × (Nat × Nat × Nat)) := [((⟨"PalmHoursModel", "isDoneBy", "(II)Z"⟩, 68), 1118, 1663, 1664), ((⟨"PalmHoursModel", "heldBits", "(I)I"⟩, 68), 1118, 1698, 1699), ((⟨"PalmHoursModel", "keeps", "()V"⟩, 68), 1118, 1710, 1711), ((⟨"PalmHoursModel", "draw", "(I)I"⟩, 68), 1118, 1718, 1719), ((⟨"PalmHoursModel", "writes", "(I)V"⟩, 68), 1118, 1746, 1747), ((⟨"PalmHoursModel", "comesOn", "(I)Z"⟩, 68), 1118, 1758, 1759), ((⟨"PalmHoursModel", "cornerOn", "(II)Z"⟩, 68), 1118, 1762, 1763)]
theorem lw_k8 : lw_prix_8.all okqB = true := by decide +kernel
theorem lw_r8 : ∀ q ∈ lw_privs_8, lw_okq q := okqL lw_prix_8 lw_k8
def lw_privs : List (MethodName × Nat) := lw_privs_1 ++ (lw_privs_2 ++ (lw_privs_3 ++ (lw_privs_4 ++ (lw_privs_5 ++ (lw_privs_6 ++ (lw_privs_7 ++ (lw_privs_8)))))))
def lw_tbl : List Cond := k2_sels lw_privs ++ tables_1
theorem lw_privs_ok : ∀ q ∈ lw_privs, lw_okq q := by
  show ∀ q ∈ lw_privs_1 ++ (lw_privs_2 ++ (lw_privs_3 ++ (lw_privs_4 ++ (lw_privs_5 ++ (lw_privs_6 ++ (lw_privs_7 ++ (lw_privs_8))))))), lw_okq q
  exact List.forall_mem_append.mpr ⟨lw_r1, List.forall_mem_append.mpr ⟨lw_r2, List.forall_mem_append.mpr ⟨lw_r3, List.forall_mem_append.mpr ⟨lw_r4, List.forall_mem_append.mpr ⟨lw_r5, List.forall_mem_append.mpr ⟨lw_r6, List.forall_mem_append.mpr ⟨lw_r7, lw_r8⟩⟩⟩⟩⟩⟩⟩
end
section
def RX0 : String := "PalmHours$Formula"
def TX0 : u_T := fun k => match k with
  | 0 => ("PalmHours$Formula", "steps", "[I", true)
  | _ => ("PalmHours$Formula", "size", "I", false)
def tyX0 : Nat → FieldType := fun k => match k with
  | 0 => .array .int
  | _ => .int
abbrev wsX00 : List Cond := u_ws RX0 TX0 2
theorem nmX0 : ∀ a, a < 2 → ∀ b, b < 2 → a ≠ b → (TX0 a).2.1 ≠ (TX0 b).2.1 := by decide +kernel
theorem tyX0_ok : ∀ k, k < 2 → parseFieldDescriptor (TX0 k).2.2.1 = some (tyX0 k) := by decide +kernel
abbrev cX0_init : ByteArray := prog_2_method_1_code
def yX0_init : MethodName := ⟨RX0, "<init>", "()V"⟩
abbrev cX0_isTold : ByteArray := prog_2_method_2_code
def yX0_isTold : MethodName := ⟨RX0, "isTold", "()Z"⟩
abbrev cX0_add : ByteArray := prog_2_method_3_code
def yX0_add : MethodName := ⟨RX0, "add", "(I)V"⟩
def RX1 : String := "PalmHours$Palm"
def TX1 : u_T := fun k => match k with
  | 0 => ("PalmHours$Palm", "town", "LPalmHours$Town;", false)
  | 1 => ("PalmHours$Palm", "corner", "I", false)
  | 2 => ("PalmHours$Palm", "thing", "I", false)
  | 3 => ("PalmHours$Palm", "held", "I", false)
  | 4 => ("PalmHours$Palm", "minute", "I", false)
  | 5 => ("PalmHours$Palm", "facts", "[I", true)
  | 6 => ("PalmHours$Palm", "waiting", "[I", true)
  | _ => ("PalmHours$Palm", "waitingCount", "I", false)
def tyX1 : Nat → FieldType := fun k => match k with
  | 0 => .object "PalmHours$Town"
  | 1 => .int
  | 2 => .int
  | 3 => .int
  | 4 => .int
  | 5 => .array .int
  | 6 => .array .int
  | _ => .int
abbrev wsX10 : List Cond := u_ws RX1 TX1 8
theorem nmX1 : ∀ a, a < 8 → ∀ b, b < 8 → a ≠ b → (TX1 a).2.1 ≠ (TX1 b).2.1 := by decide +kernel
theorem tyX1_ok : ∀ k, k < 8 → parseFieldDescriptor (TX1 k).2.2.1 = some (tyX1 k) := by decide +kernel
abbrev cX1_init : ByteArray := prog_3_method_1_code
def yX1_init : MethodName := ⟨RX1, "<init>", "(LPalmHours$Town;)V"⟩
abbrev cX1_hold : ByteArray := prog_3_method_2_code
def yX1_hold : MethodName := ⟨RX1, "hold", "(IIII)V"⟩
abbrev cX1_hourNow : ByteArray := prog_3_method_3_code
def yX1_hourNow : MethodName := ⟨RX1, "hourNow", "()I"⟩
abbrev cX1_goOn : ByteArray := prog_3_method_4_code
def yX1_goOn : MethodName := ⟨RX1, "goOn", "()V"⟩
abbrev cX1_foresee : ByteArray := prog_3_method_5_code
def yX1_foresee : MethodName := ⟨RX1, "foresee", "([II)I"⟩
abbrev cX1_valueOf : ByteArray := prog_3_method_6_code
def yX1_valueOf : MethodName := ⟨RX1, "valueOf", "(LPalmHours$Formula;)I"⟩
abbrev cX1_join : ByteArray := prog_3_method_7_code
def yX1_join : MethodName := ⟨RX1, "join", "(I)V"⟩
def RX2 : String := "PalmHours$Past"
def TX2 : u_T := fun k => match k with
  | 0 => ("PalmHours$Past", "rows", "[[I", true)
  | 1 => ("PalmHours$Past", "next", "I", false)
  | _ => ("PalmHours$Past", "count", "I", false)
def tyX2 : Nat → FieldType := fun k => match k with
  | 0 => .array (.array .int)
  | 1 => .int
  | _ => .int
abbrev wsX20 : List Cond := u_ws RX2 TX2 3
theorem nmX2 : ∀ a, a < 3 → ∀ b, b < 3 → a ≠ b → (TX2 a).2.1 ≠ (TX2 b).2.1 := by decide +kernel
theorem tyX2_ok : ∀ k, k < 3 → parseFieldDescriptor (TX2 k).2.2.1 = some (tyX2 k) := by decide +kernel
abbrev cX2_init : ByteArray := prog_4_method_1_code
def yX2_init : MethodName := ⟨RX2, "<init>", "()V"⟩
abbrev cX2_remember : ByteArray := prog_4_method_2_code
def yX2_remember : MethodName := ⟨RX2, "remember", "(LPalmHours$State;)V"⟩
abbrev cX2_bringBack : ByteArray := prog_4_method_3_code
def yX2_bringBack : MethodName := ⟨RX2, "bringBack", "(LPalmHours$State;)Z"⟩
def RX3 : String := "PalmHours$Phrases"
def TX3 : u_T := fun k => match k with
  | 0 => ("PalmHours$Phrases", "tokens", "LPalmHours$Tokens;", true)
  | 1 => ("PalmHours$Phrases", "formula", "LPalmHours$Formula;", false)
  | _ => ("PalmHours$Phrases", "isGone", "Z", false)
def tyX3 : Nat → FieldType := fun k => match k with
  | 0 => .object "PalmHours$Tokens"
  | 1 => .object "PalmHours$Formula"
  | _ => .boolean
abbrev wsX30 : List Cond := u_ws RX3 TX3 3
theorem nmX3 : ∀ a, a < 3 → ∀ b, b < 3 → a ≠ b → (TX3 a).2.1 ≠ (TX3 b).2.1 := by decide +kernel
theorem tyX3_ok : ∀ k, k < 3 → parseFieldDescriptor (TX3 k).2.2.1 = some (tyX3 k) := by decide +kernel
abbrev cX3_init : ByteArray := prog_5_method_1_code
def yX3_init : MethodName := ⟨RX3, "<init>", "(LPalmHours$Tokens;LPalmHours$Formula;)V"⟩
abbrev cX3_readSays : ByteArray := prog_5_method_2_code
def yX3_readSays : MethodName := ⟨RX3, "readSays", "(LPalmHours$Formula;)Z"⟩
abbrev cX3_readGone : ByteArray := prog_5_method_3_code
def yX3_readGone : MethodName := ⟨RX3, "readGone", "(LPalmHours$Formula;)Z"⟩
abbrev cX3_goIn : ByteArray := prog_5_method_4_code
def yX3_goIn : MethodName := ⟨RX3, "goIn", "(II)Z"⟩
abbrev cX3_add : ByteArray := prog_5_method_5_code
def yX3_add : MethodName := ⟨RX3, "add", "(I)Z"⟩
abbrev cX3_readSum : ByteArray := prog_5_method_6_code
def yX3_readSum : MethodName := ⟨RX3, "readSum", "(I)Z"⟩
abbrev cX3_sumStep : ByteArray := prog_5_method_7_code
def yX3_sumStep : MethodName := ⟨RX3, "sumStep", "()I"⟩
abbrev cX3_readProduct : ByteArray := prog_5_method_8_code
def yX3_readProduct : MethodName := ⟨RX3, "readProduct", "(I)Z"⟩
abbrev cX3_productStep : ByteArray := prog_5_method_9_code
def yX3_productStep : MethodName := ⟨RX3, "productStep", "()I"⟩
abbrev cX3_readPart : ByteArray := prog_5_method_10_code
def yX3_readPart : MethodName := ⟨RX3, "readPart", "(I)Z"⟩
abbrev cX3_addAndAdvance : ByteArray := prog_5_method_11_code
def yX3_addAndAdvance : MethodName := ⟨RX3, "addAndAdvance", "(I)Z"⟩
abbrev cX3_readPair : ByteArray := prog_5_method_12_code
def yX3_readPair : MethodName := ⟨RX3, "readPair", "(II)Z"⟩
abbrev cX3_readChoice : ByteArray := prog_5_method_13_code
def yX3_readChoice : MethodName := ⟨RX3, "readChoice", "(I)Z"⟩
abbrev cX3_readTest : ByteArray := prog_5_method_14_code
def yX3_readTest : MethodName := ⟨RX3, "readTest", "(I)Z"⟩
abbrev cX3_readBoth : ByteArray := prog_5_method_15_code
def yX3_readBoth : MethodName := ⟨RX3, "readBoth", "(I)Z"⟩
abbrev cX3_readFact : ByteArray := prog_5_method_16_code
def yX3_readFact : MethodName := ⟨RX3, "readFact", "(I)Z"⟩
abbrev cX3_readComparison : ByteArray := prog_5_method_17_code
def yX3_readComparison : MethodName := ⟨RX3, "readComparison", "(I)Z"⟩
abbrev cX3_comparisonStep : ByteArray := prog_5_method_18_code
def yX3_comparisonStep : MethodName := ⟨RX3, "comparisonStep", "()I"⟩
def RX4 : String := "PalmHours$Reader"
def TX4 : u_T := fun k => match k with
  | 0 => ("PalmHours$Reader", "tokens", "LPalmHours$Tokens;", true)
  | 1 => ("PalmHours$Reader", "phrases", "LPalmHours$Phrases;", true)
  | _ => ("PalmHours$Reader", "town", "LPalmHours$Town;", false)
def tyX4 : Nat → FieldType := fun k => match k with
  | 0 => .object "PalmHours$Tokens"
  | 1 => .object "PalmHours$Phrases"
  | _ => .object "PalmHours$Town"
abbrev wsX40 : List Cond := u_ws RX4 TX4 3
theorem nmX4 : ∀ a, a < 3 → ∀ b, b < 3 → a ≠ b → (TX4 a).2.1 ≠ (TX4 b).2.1 := by decide +kernel
theorem tyX4_ok : ∀ k, k < 3 → parseFieldDescriptor (TX4 k).2.2.1 = some (tyX4 k) := by decide +kernel
abbrev cX4_init : ByteArray := prog_6_method_1_code
def yX4_init : MethodName := ⟨RX4, "<init>", "(LPalmHours$Tape;LPalmHours$Town;)V"⟩
abbrev cX4_read : ByteArray := prog_6_method_2_code
def yX4_read : MethodName := ⟨RX4, "read", "(LPalmHours$Town;)Z"⟩
abbrev cX4_readStatement : ByteArray := prog_6_method_3_code
def yX4_readStatement : MethodName := ⟨RX4, "readStatement", "()Z"⟩
abbrev cX4_skipFirst : ByteArray := prog_6_method_4_code
def yX4_skipFirst : MethodName := ⟨RX4, "skipFirst", "(Z)Z"⟩
abbrev cX4_readThing : ByteArray := prog_6_method_5_code
def yX4_readThing : MethodName := ⟨RX4, "readThing", "()Z"⟩
abbrev cX4_readCorner : ByteArray := prog_6_method_6_code
def yX4_readCorner : MethodName := ⟨RX4, "readCorner", "()Z"⟩
abbrev cX4_readRoad : ByteArray := prog_6_method_7_code
def yX4_readRoad : MethodName := ⟨RX4, "readRoad", "()Z"⟩
abbrev cX4_readPalm : ByteArray := prog_6_method_8_code
def yX4_readPalm : MethodName := ⟨RX4, "readPalm", "()Z"⟩
abbrev cX4_readDoing : ByteArray := prog_6_method_9_code
def yX4_readDoing : MethodName := ⟨RX4, "readDoing", "()Z"⟩
abbrev cX4_readPass : ByteArray := prog_6_method_10_code
def yX4_readPass : MethodName := ⟨RX4, "readPass", "()Z"⟩
abbrev cX4_newName : ByteArray := prog_6_method_11_code
def yX4_newName : MethodName := ⟨RX4, "newName", "()I"⟩
abbrev cX4_cornerHere : ByteArray := prog_6_method_12_code
def yX4_cornerHere : MethodName := ⟨RX4, "cornerHere", "()I"⟩
abbrev cX4_number : ByteArray := prog_6_method_13_code
def yX4_number : MethodName := ⟨RX4, "number", "(II)I"⟩
def RX5 : String := "PalmHours$Seen"
def TX5 : u_T := fun k => match k with
  | 0 => ("PalmHours$Seen", "count", "I", false)
  | 1 => ("PalmHours$Seen", "ahead", "[I", true)
  | 2 => ("PalmHours$Seen", "corners", "[I", true)
  | 3 => ("PalmHours$Seen", "hours", "[I", true)
  | _ => ("PalmHours$Seen", "hoursBy", "[[I", true)
def tyX5 : Nat → FieldType := fun k => match k with
  | 0 => .int
  | 1 => .array .int
  | 2 => .array .int
  | 3 => .array .int
  | _ => .array (.array .int)
abbrev wsX50 : List Cond := u_ws RX5 TX5 5
theorem nmX5 : ∀ a, a < 5 → ∀ b, b < 5 → a ≠ b → (TX5 a).2.1 ≠ (TX5 b).2.1 := by decide +kernel
theorem tyX5_ok : ∀ k, k < 5 → parseFieldDescriptor (TX5 k).2.2.1 = some (tyX5 k) := by decide +kernel
abbrev cX5_init : ByteArray := prog_7_method_1_code
def yX5_init : MethodName := ⟨RX5, "<init>", "()V"⟩
abbrev cX5_read : ByteArray := prog_7_method_2_code
def yX5_read : MethodName := ⟨RX5, "read", "(LPalmHours$Tape;LPalmHours$Town;)Z"⟩
abbrev cX5_isAbout : ByteArray := prog_7_method_3_code
def yX5_isAbout : MethodName := ⟨RX5, "isAbout", "(I)Z"⟩
abbrev cX5_isSo : ByteArray := prog_7_method_4_code
def yX5_isSo : MethodName := ⟨RX5, "isSo", "(I[II)Z"⟩
abbrev cX5_noteHours : ByteArray := prog_7_method_5_code
def yX5_noteHours : MethodName := ⟨RX5, "noteHours", "(I[II)V"⟩
abbrev cX5_mostLeft : ByteArray := prog_7_method_6_code
def yX5_mostLeft : MethodName := ⟨RX5, "mostLeft", "(II)I"⟩
def RX6 : String := "PalmHours$State"
def TX6 : u_T := fun k => match k with
  | 0 => ("PalmHours$State", "town", "LPalmHours$Town;", false)
  | 1 => ("PalmHours$State", "minute", "I", false)
  | 2 => ("PalmHours$State", "things", "[I", true)
  | 3 => ("PalmHours$State", "held", "[I", true)
  | 4 => ("PalmHours$State", "done", "[I", true)
  | 5 => ("PalmHours$State", "keptCount", "I", false)
  | 6 => ("PalmHours$State", "keptMinutes", "[I", true)
  | _ => ("PalmHours$State", "keptDoings", "[I", true)
def tyX6 : Nat → FieldType := fun k => match k with
  | 0 => .object "PalmHours$Town"
  | 1 => .int
  | 2 => .array .int
  | 3 => .array .int
  | 4 => .array .int
  | 5 => .int
  | 6 => .array .int
  | _ => .array .int
abbrev wsX60 : List Cond := u_ws RX6 TX6 8
theorem nmX6 : ∀ a, a < 8 → ∀ b, b < 8 → a ≠ b → (TX6 a).2.1 ≠ (TX6 b).2.1 := by decide +kernel
theorem tyX6_ok : ∀ k, k < 8 → parseFieldDescriptor (TX6 k).2.2.1 = some (tyX6 k) := by decide +kernel
abbrev cX6_init : ByteArray := prog_8_method_1_code
def yX6_init : MethodName := ⟨RX6, "<init>", "(LPalmHours$Town;)V"⟩
abbrev cX6_begin : ByteArray := prog_8_method_2_code
def yX6_begin : MethodName := ⟨RX6, "begin", "(LPalmHours$Town;)V"⟩
abbrev cX6_countDone : ByteArray := prog_8_method_3_code
def yX6_countDone : MethodName := ⟨RX6, "countDone", "()I"⟩
abbrev cX6_countEmpty : ByteArray := prog_8_method_4_code
def yX6_countEmpty : MethodName := ⟨RX6, "countEmpty", "()I"⟩
abbrev cX6_put : ByteArray := prog_8_method_5_code
def yX6_put : MethodName := ⟨RX6, "put", "(II)V"⟩
abbrev cX6_goOn : ByteArray := prog_8_method_6_code
def yX6_goOn : MethodName := ⟨RX6, "goOn", "(LPalmHours$Palm;)V"⟩
abbrev cX6_doWhatIsDue : ByteArray := prog_8_method_7_code
def yX6_doWhatIsDue : MethodName := ⟨RX6, "doWhatIsDue", "(LPalmHours$Palm;)I"⟩
abbrev cX6_isDue : ByteArray := prog_8_method_8_code
def yX6_isDue : MethodName := ⟨RX6, "isDue", "(ILPalmHours$Palm;)Z"⟩
abbrev cX6_keep : ByteArray := prog_8_method_9_code
def yX6_keep : MethodName := ⟨RX6, "keep", "(I)V"⟩
abbrev cX6_save : ByteArray := prog_8_method_10_code
def yX6_save : MethodName := ⟨RX6, "save", "([I)V"⟩
abbrev cX6_bringBack : ByteArray := prog_8_method_11_code
def yX6_bringBack : MethodName := ⟨RX6, "bringBack", "([I)V"⟩
abbrev cX6_imageSize : ByteArray := prog_8_method_12_code
def yX6_imageSize : MethodName := ⟨RX6, "imageSize", "()I"⟩
abbrev cX6_checkOf : ByteArray := prog_8_method_13_code
def yX6_checkOf : MethodName := ⟨RX6, "checkOf", "([II)I"⟩
abbrev cX6_writeImage : ByteArray := prog_8_method_14_code
def yX6_writeImage : MethodName := ⟨RX6, "writeImage", "([I)I"⟩
abbrev cX6_isImage : ByteArray := prog_8_method_15_code
def yX6_isImage : MethodName := ⟨RX6, "isImage", "(LPalmHours$Tape;)Z"⟩
abbrev cX6_readImage : ByteArray := prog_8_method_16_code
def yX6_readImage : MethodName := ⟨RX6, "readImage", "(LPalmHours$Tape;)V"⟩
def RX7 : String := "PalmHours$Tape"
def TX7 : u_T := fun k => match k with
  | 0 => ("PalmHours$Tape", "bytes", "[I", true)
  | _ => ("PalmHours$Tape", "length", "I", false)
def tyX7 : Nat → FieldType := fun k => match k with
  | 0 => .array .int
  | _ => .int
abbrev wsX70 : List Cond := u_ws RX7 TX7 2
theorem nmX7 : ∀ a, a < 2 → ∀ b, b < 2 → a ≠ b → (TX7 a).2.1 ≠ (TX7 b).2.1 := by decide +kernel
theorem tyX7_ok : ∀ k, k < 2 → parseFieldDescriptor (TX7 k).2.2.1 = some (tyX7 k) := by decide +kernel
abbrev cX7_init : ByteArray := prog_9_method_1_code
def yX7_init : MethodName := ⟨RX7, "<init>", "()V"⟩
abbrev cX7_hasRoomFor : ByteArray := prog_9_method_2_code
def yX7_hasRoomFor : MethodName := ⟨RX7, "hasRoomFor", "(I)Z"⟩
abbrev cX7_addNumber : ByteArray := prog_9_method_3_code
def yX7_addNumber : MethodName := ⟨RX7, "addNumber", "(I)V"⟩
abbrev cX7_at : ByteArray := prog_9_method_4_code
def yX7_at : MethodName := ⟨RX7, "at", "(I)I"⟩
abbrev cX7_pairAt : ByteArray := prog_9_method_5_code
def yX7_pairAt : MethodName := ⟨RX7, "pairAt", "(I)I"⟩
def RX8 : String := "PalmHours$Tokens"
def TX8 : u_T := fun k => match k with
  | 0 => ("PalmHours$Tokens", "tape", "LPalmHours$Tape;", true)
  | 1 => ("PalmHours$Tokens", "ownCodes", "[I", true)
  | 2 => ("PalmHours$Tokens", "kind", "I", false)
  | 3 => ("PalmHours$Tokens", "start", "I", false)
  | 4 => ("PalmHours$Tokens", "place", "I", false)
  | 5 => ("PalmHours$Tokens", "value", "I", false)
  | 6 => ("PalmHours$Tokens", "next", "I", false)
  | 7 => ("PalmHours$Tokens", "fault", "I", false)
  | _ => ("PalmHours$Tokens", "faultPlace", "I", false)
def tyX8 : Nat → FieldType := fun k => match k with
  | 0 => .object "PalmHours$Tape"
  | 1 => .array .int
  | 2 => .int
  | 3 => .int
  | 4 => .int
  | 5 => .int
  | 6 => .int
  | 7 => .int
  | _ => .int
abbrev wsX80 : List Cond := u_ws RX8 TX8 9
theorem nmX8 : ∀ a, a < 9 → ∀ b, b < 9 → a ≠ b → (TX8 a).2.1 ≠ (TX8 b).2.1 := by decide +kernel
theorem tyX8_ok : ∀ k, k < 9 → parseFieldDescriptor (TX8 k).2.2.1 = some (tyX8 k) := by decide +kernel
abbrev cX8_init : ByteArray := prog_10_method_1_code
def yX8_init : MethodName := ⟨RX8, "<init>", "(LPalmHours$Tape;)V"⟩
abbrev cX8_letterOf : ByteArray := prog_10_method_2_code
def yX8_letterOf : MethodName := ⟨RX8, "letterOf", "(II)I"⟩
abbrev cX8_fillUp : ByteArray := prog_10_method_3_code
def yX8_fillUp : MethodName := ⟨RX8, "fillUp", "(II)I"⟩
abbrev cX8_begin : ByteArray := prog_10_method_4_code
def yX8_begin : MethodName := ⟨RX8, "begin", "()V"⟩
abbrev cX8_fail : ByteArray := prog_10_method_5_code
def yX8_fail : MethodName := ⟨RX8, "fail", "(II)Z"⟩
abbrev cX8_failHere : ByteArray := prog_10_method_6_code
def yX8_failHere : MethodName := ⟨RX8, "failHere", "()Z"⟩
abbrev cX8_skip : ByteArray := prog_10_method_7_code
def yX8_skip : MethodName := ⟨RX8, "skip", "(I)Z"⟩
abbrev cX8_advance : ByteArray := prog_10_method_8_code
def yX8_advance : MethodName := ⟨RX8, "advance", "()V"⟩
abbrev cX8_isWordOrNumber : ByteArray := prog_10_method_9_code
def yX8_isWordOrNumber : MethodName := ⟨RX8, "isWordOrNumber", "()Z"⟩
abbrev cX8_skipBlanks : ByteArray := prog_10_method_10_code
def yX8_skipBlanks : MethodName := ⟨RX8, "skipBlanks", "()V"⟩
abbrev cX8_isLetter : ByteArray := prog_10_method_11_code
def yX8_isLetter : MethodName := ⟨RX8, "isLetter", "(I)Z"⟩
abbrev cX8_isDigit : ByteArray := prog_10_method_12_code
def yX8_isDigit : MethodName := ⟨RX8, "isDigit", "(I)Z"⟩
abbrev cX8_readWord : ByteArray := prog_10_method_13_code
def yX8_readWord : MethodName := ⟨RX8, "readWord", "()V"⟩
abbrev cX8_kindOf : ByteArray := prog_10_method_14_code
def yX8_kindOf : MethodName := ⟨RX8, "kindOf", "(I)I"⟩
abbrev cX8_readNumber : ByteArray := prog_10_method_15_code
def yX8_readNumber : MethodName := ⟨RX8, "readNumber", "()V"⟩
def RX9 : String := "PalmHours$Town"
def TX9 : u_T := fun k => match k with
  | 0 => ("PalmHours$Town", "statements", "I", false)
  | 1 => ("PalmHours$Town", "things", "I", false)
  | 2 => ("PalmHours$Town", "thingNames", "[I", true)
  | 3 => ("PalmHours$Town", "weighs", "[I", true)
  | 4 => ("PalmHours$Town", "lasts", "[I", true)
  | 5 => ("PalmHours$Town", "corners", "I", false)
  | 6 => ("PalmHours$Town", "cornerNames", "[I", true)
  | 7 => ("PalmHours$Town", "palms", "[I", true)
  | 8 => ("PalmHours$Town", "roads", "I", false)
  | 9 => ("PalmHours$Town", "roadFrom", "[I", true)
  | 10 => ("PalmHours$Town", "roadTo", "[I", true)
  | 11 => ("PalmHours$Town", "roadSteps", "[I", true)
  | 12 => ("PalmHours$Town", "doings", "I", false)
  | 13 => ("PalmHours$Town", "doingNames", "[I", true)
  | 14 => ("PalmHours$Town", "doingCorners", "[I", true)
  | 15 => ("PalmHours$Town", "doingHours", "[I", true)
  | 16 => ("PalmHours$Town", "pass", "I", false)
  | 17 => ("PalmHours$Town", "says", "LPalmHours$Formula;", true)
  | _ => ("PalmHours$Town", "gone", "LPalmHours$Formula;", true)
def tyX9 : Nat → FieldType := fun k => match k with
  | 0 => .int
  | 1 => .int
  | 2 => .array .int
  | 3 => .array .int
  | 4 => .array .int
  | 5 => .int
  | 6 => .array .int
  | 7 => .array .int
  | 8 => .int
  | 9 => .array .int
  | 10 => .array .int
  | 11 => .array .int
  | 12 => .int
  | 13 => .array .int
  | 14 => .array .int
  | 15 => .array .int
  | 16 => .int
  | 17 => .object "PalmHours$Formula"
  | _ => .object "PalmHours$Formula"
abbrev wsX90 : List Cond := u_ws RX9 TX9 19
theorem nmX9 : ∀ a, a < 19 → ∀ b, b < 19 → a ≠ b → (TX9 a).2.1 ≠ (TX9 b).2.1 := by decide +kernel
theorem tyX9_ok : ∀ k, k < 19 → parseFieldDescriptor (TX9 k).2.2.1 = some (tyX9 k) := by decide +kernel
abbrev cX9_init : ByteArray := prog_11_method_1_code
def yX9_init : MethodName := ⟨RX9, "<init>", "()V"⟩
abbrev cX9_clear : ByteArray := prog_11_method_2_code
def yX9_clear : MethodName := ⟨RX9, "clear", "()V"⟩
abbrev cX9_isThing : ByteArray := prog_11_method_3_code
def yX9_isThing : MethodName := ⟨RX9, "isThing", "(I)Z"⟩
abbrev cX9_isCorner : ByteArray := prog_11_method_4_code
def yX9_isCorner : MethodName := ⟨RX9, "isCorner", "(I)Z"⟩
abbrev cX9_isDoing : ByteArray := prog_11_method_5_code
def yX9_isDoing : MethodName := ⟨RX9, "isDoing", "(I)Z"⟩
abbrev cX9_findThing : ByteArray := prog_11_method_6_code
def yX9_findThing : MethodName := ⟨RX9, "findThing", "(I)I"⟩
abbrev cX9_findCorner : ByteArray := prog_11_method_7_code
def yX9_findCorner : MethodName := ⟨RX9, "findCorner", "(I)I"⟩
abbrev cX9_findDoing : ByteArray := prog_11_method_8_code
def yX9_findDoing : MethodName := ⟨RX9, "findDoing", "(I)I"⟩
abbrev cX9_find : ByteArray := prog_11_method_9_code
def yX9_find : MethodName := ⟨RX9, "find", "([III)I"⟩
abbrev cX9_hasRoad : ByteArray := prog_11_method_10_code
def yX9_hasRoad : MethodName := ⟨RX9, "hasRoad", "(II)Z"⟩
abbrev cX9_addThing : ByteArray := prog_11_method_11_code
def yX9_addThing : MethodName := ⟨RX9, "addThing", "(III)V"⟩
abbrev cX9_addCorner : ByteArray := prog_11_method_12_code
def yX9_addCorner : MethodName := ⟨RX9, "addCorner", "(I)V"⟩
abbrev cX9_addRoad : ByteArray := prog_11_method_13_code
def yX9_addRoad : MethodName := ⟨RX9, "addRoad", "(III)V"⟩
abbrev cX9_addDoing : ByteArray := prog_11_method_14_code
def yX9_addDoing : MethodName := ⟨RX9, "addDoing", "(III)V"⟩
def RX10 : String := "PalmHours$Walks"
def TX10 : u_T := fun k => match k with
  | 0 => ("PalmHours$Walks", "shortest", "[I", true)
  | _ => ("PalmHours$Walks", "ends", "[I", true)
def tyX10 : Nat → FieldType := fun k => match k with
  | 0 => .array .int
  | _ => .array .int
abbrev wsX100 : List Cond := u_ws RX10 TX10 2
theorem nmX10 : ∀ a, a < 2 → ∀ b, b < 2 → a ≠ b → (TX10 a).2.1 ≠ (TX10 b).2.1 := by decide +kernel
theorem tyX10_ok : ∀ k, k < 2 → parseFieldDescriptor (TX10 k).2.2.1 = some (tyX10 k) := by decide +kernel
abbrev cX10_init : ByteArray := prog_12_method_1_code
def yX10_init : MethodName := ⟨RX10, "<init>", "()V"⟩
abbrev cX10_stepsOf : ByteArray := prog_12_method_2_code
def yX10_stepsOf : MethodName := ⟨RX10, "stepsOf", "(LPalmHours$Town;II)I"⟩
abbrev cX10_shorten : ByteArray := prog_12_method_3_code
def yX10_shorten : MethodName := ⟨RX10, "shorten", "(III)V"⟩
abbrev cX10_goOutFrom : ByteArray := prog_12_method_4_code
def yX10_goOutFrom : MethodName := ⟨RX10, "goOutFrom", "(LPalmHours$Town;I)V"⟩
abbrev cX10_across : ByteArray := prog_12_method_5_code
def yX10_across : MethodName := ⟨RX10, "across", "(LPalmHours$Town;II)I"⟩
abbrev cX10_canBeAt : ByteArray := prog_12_method_6_code
def yX10_canBeAt : MethodName := ⟨RX10, "canBeAt", "(II)Z"⟩
def RX11 : String := "PalmHours"
def TX11 : u_T := fun k => match k with
  | 0 => ("PalmHours", "tape", "LPalmHours$Tape;", true)
  | 1 => ("PalmHours", "told", "LPalmHours$Town;", false)
  | 2 => ("PalmHours", "draft", "LPalmHours$Town;", false)
  | 3 => ("PalmHours", "reader", "LPalmHours$Reader;", true)
  | 4 => ("PalmHours", "palm", "LPalmHours$Palm;", true)
  | 5 => ("PalmHours", "state", "LPalmHours$State;", true)
  | 6 => ("PalmHours", "past", "LPalmHours$Past;", true)
  | 7 => ("PalmHours", "walks", "LPalmHours$Walks;", true)
  | 8 => ("PalmHours", "seen", "LPalmHours$Seen;", true)
  | 9 => ("PalmHours", "hours", "[I", true)
  | 10 => ("PalmHours", "otherHours", "[I", true)
  | 11 => ("PalmHours", "planned", "[I", true)
  | 12 => ("PalmHours", "imageBytes", "[I", true)
  | 13 => ("PalmHours", "refused", "[I", true)
  | 14 => ("PalmHours", "imageLength", "I", false)
  | 15 => ("PalmHours", "faultKind", "I", false)
  | 16 => ("PalmHours", "faultPlace", "I", false)
  | _ => ("PalmHours", "drawn", "I", false)
def tyX11 : Nat → FieldType := fun k => match k with
  | 0 => .object "PalmHours$Tape"
  | 1 => .object "PalmHours$Town"
  | 2 => .object "PalmHours$Town"
  | 3 => .object "PalmHours$Reader"
  | 4 => .object "PalmHours$Palm"
  | 5 => .object "PalmHours$State"
  | 6 => .object "PalmHours$Past"
  | 7 => .object "PalmHours$Walks"
  | 8 => .object "PalmHours$Seen"
  | 9 => .array .int
  | 10 => .array .int
  | 11 => .array .int
  | 12 => .array .int
  | 13 => .array .int
  | 14 => .int
  | 15 => .int
  | 16 => .int
  | _ => .int
abbrev wsX110 : List Cond := u_ws RX11 TX11 18
theorem nmX11 : ∀ a, a < 18 → ∀ b, b < 18 → a ≠ b → (TX11 a).2.1 ≠ (TX11 b).2.1 := by decide +kernel
theorem tyX11_ok : ∀ k, k < 18 → parseFieldDescriptor (TX11 k).2.2.1 = some (tyX11 k) := by decide +kernel
abbrev cX11_init : ByteArray := prog_1_method_1_code
def yX11_init : MethodName := ⟨RX11, "<init>", "()V"⟩
abbrev cX11_feed : ByteArray := prog_1_method_2_code
def yX11_feed : MethodName := ⟨RX11, "feed", "(IIIII)I"⟩
abbrev cX11_end : ByteArray := prog_1_method_3_code
def yX11_end : MethodName := ⟨RX11, "end", "(I)Z"⟩
abbrev cX11_town : ByteArray := prog_1_method_4_code
def yX11_town : MethodName := ⟨RX11, "town", "()I"⟩
abbrev cX11_fault : ByteArray := prog_1_method_5_code
def yX11_fault : MethodName := ⟨RX11, "fault", "(I)I"⟩
abbrev cX11_has : ByteArray := prog_1_method_6_code
def yX11_has : MethodName := ⟨RX11, "has", "(I)I"⟩
abbrev cX11_letter : ByteArray := prog_1_method_7_code
def yX11_letter : MethodName := ⟨RX11, "letter", "(III)I"⟩
abbrev cX11_thing : ByteArray := prog_1_method_8_code
def yX11_thing : MethodName := ⟨RX11, "thing", "(II)I"⟩
abbrev cX11_corner : ByteArray := prog_1_method_9_code
def yX11_corner : MethodName := ⟨RX11, "corner", "(II)I"⟩
abbrev cX11_doing : ByteArray := prog_1_method_10_code
def yX11_doing : MethodName := ⟨RX11, "doing", "(II)I"⟩
abbrev cX11_later : ByteArray := prog_1_method_11_code
def yX11_later : MethodName := ⟨RX11, "later", "(II)I"⟩
abbrev cX11_when : ByteArray := prog_1_method_12_code
def yX11_when : MethodName := ⟨RX11, "when", "(I)I"⟩
abbrev cX11_alike : ByteArray := prog_1_method_13_code
def yX11_alike : MethodName := ⟨RX11, "alike", "(II)I"⟩
abbrev cX11_plan : ByteArray := prog_1_method_14_code
def yX11_plan : MethodName := ⟨RX11, "plan", "(III)I"⟩
abbrev cX11_evening : ByteArray := prog_1_method_15_code
def yX11_evening : MethodName := ⟨RX11, "evening", "(II)I"⟩
abbrev cX11_odds : ByteArray := prog_1_method_16_code
def yX11_odds : MethodName := ⟨RX11, "odds", "(III)J"⟩
abbrev cX11_way : ByteArray := prog_1_method_17_code
def yX11_way : MethodName := ⟨RX11, "way", "(II)I"⟩
abbrev cX11_arrive : ByteArray := prog_1_method_18_code
def yX11_arrive : MethodName := ⟨RX11, "arrive", "(II)I"⟩
abbrev cX11_early : ByteArray := prog_1_method_19_code
def yX11_early : MethodName := ⟨RX11, "early", "(I)I"⟩
abbrev cX11_see : ByteArray := prog_1_method_20_code
def yX11_see : MethodName := ⟨RX11, "see", "()I"⟩
abbrev cX11_held : ByteArray := prog_1_method_21_code
def yX11_held : MethodName := ⟨RX11, "held", "(I)I"⟩
abbrev cX11_tells : ByteArray := prog_1_method_22_code
def yX11_tells : MethodName := ⟨RX11, "tells", "(II)I"⟩
abbrev cX11_minutes : ByteArray := prog_1_method_23_code
def yX11_minutes : MethodName := ⟨RX11, "minutes", "(I)I"⟩
abbrev cX11_chance : ByteArray := prog_1_method_24_code
def yX11_chance : MethodName := ⟨RX11, "chance", "(I)I"⟩
abbrev cX11_give : ByteArray := prog_1_method_25_code
def yX11_give : MethodName := ⟨RX11, "give", "(II)I"⟩
abbrev cX11_take : ByteArray := prog_1_method_26_code
def yX11_take : MethodName := ⟨RX11, "take", "(I)I"⟩
abbrev cX11_undo : ByteArray := prog_1_method_27_code
def yX11_undo : MethodName := ⟨RX11, "undo", "()Z"⟩
abbrev cX11_seed : ByteArray := prog_1_method_28_code
def yX11_seed : MethodName := ⟨RX11, "seed", "(I)Z"⟩
abbrev cX11_kept : ByteArray := prog_1_method_29_code
def yX11_kept : MethodName := ⟨RX11, "kept", "(II)I"⟩
abbrev cX11_image : ByteArray := prog_1_method_30_code
def yX11_image : MethodName := ⟨RX11, "image", "()I"⟩
abbrev cX11_octet : ByteArray := prog_1_method_31_code
def yX11_octet : MethodName := ⟨RX11, "octet", "(I)I"⟩
abbrev cX11_on : ByteArray := prog_1_method_32_code
def yX11_on : MethodName := ⟨RX11, "on", "()Z"⟩
abbrev cX11_status : ByteArray := prog_1_method_33_code
def yX11_status : MethodName := ⟨RX11, "status", "(I)I"⟩
abbrev cX11_refuse : ByteArray := prog_1_method_34_code
def yX11_refuse : MethodName := ⟨RX11, "refuse", "(I)I"⟩
abbrev cX11_begin : ByteArray := prog_1_method_35_code
def yX11_begin : MethodName := ⟨RX11, "begin", "()V"⟩
abbrev cX11_isBeyond : ByteArray := prog_1_method_36_code
def yX11_isBeyond : MethodName := ⟨RX11, "isBeyond", "(I)Z"⟩
abbrev cX11_lookAt : ByteArray := prog_1_method_37_code
def yX11_lookAt : MethodName := ⟨RX11, "lookAt", "(I)V"⟩
abbrev cX11_hourAt : ByteArray := prog_1_method_38_code
def yX11_hourAt : MethodName := ⟨RX11, "hourAt", "(I)I"⟩
abbrev cX11_foresee : ByteArray := prog_1_method_39_code
def yX11_foresee : MethodName := ⟨RX11, "foresee", "(I[II)I"⟩
abbrev cX11_putByAct : ByteArray := prog_1_method_40_code
def yX11_putByAct : MethodName := ⟨RX11, "putByAct", "(II)I"⟩
abbrev cX11_countStaying : ByteArray := prog_1_method_41_code
def yX11_countStaying : MethodName := ⟨RX11, "countStaying", "(II)I"⟩
abbrev cX11_planNothing : ByteArray := prog_1_method_42_code
def yX11_planNothing : MethodName := ⟨RX11, "planNothing", "(II)Z"⟩
abbrev cX11_planNeeded : ByteArray := prog_1_method_43_code
def yX11_planNeeded : MethodName := ⟨RX11, "planNeeded", "(II)Z"⟩
abbrev cX11_planAnywhere : ByteArray := prog_1_method_44_code
def yX11_planAnywhere : MethodName := ⟨RX11, "planAnywhere", "(II)Z"⟩
abbrev cX11_findGiving : ByteArray := prog_1_method_45_code
def yX11_findGiving : MethodName := ⟨RX11, "findGiving", "(III)I"⟩
abbrev cX11_doesWithout : ByteArray := prog_1_method_46_code
def yX11_doesWithout : MethodName := ⟨RX11, "doesWithout", "(IIII)Z"⟩
abbrev cX11_doesAll : ByteArray := prog_1_method_47_code
def yX11_doesAll : MethodName := ⟨RX11, "doesAll", "(IIII)Z"⟩
abbrev cX11_tellsWithin : ByteArray := prog_1_method_48_code
def yX11_tellsWithin : MethodName := ⟨RX11, "tellsWithin", "(III)Z"⟩
abbrev cX11_countPlanned : ByteArray := prog_1_method_49_code
def yX11_countPlanned : MethodName := ⟨RX11, "countPlanned", "()I"⟩
abbrev cX11_countRowsWithout : ByteArray := prog_1_method_50_code
def yX11_countRowsWithout : MethodName := ⟨RX11, "countRowsWithout", "()J"⟩
abbrev cX11_countRowsOfOne : ByteArray := prog_1_method_51_code
def yX11_countRowsOfOne : MethodName := ⟨RX11, "countRowsOfOne", "(I)J"⟩
abbrev cX11_countRowsOfTwo : ByteArray := prog_1_method_52_code
def yX11_countRowsOfTwo : MethodName := ⟨RX11, "countRowsOfTwo", "(I)J"⟩
abbrev cX11_findHeld : ByteArray := prog_1_method_53_code
def yX11_findHeld : MethodName := ⟨RX11, "findHeld", "(I)I"⟩
abbrev cX11_draw : ByteArray := prog_1_method_54_code
def yX11_draw : MethodName := ⟨RX11, "draw", "(I)I"⟩
abbrev cX11_letPass : ByteArray := prog_1_method_55_code
def yX11_letPass : MethodName := ⟨RX11, "letPass", "()I"⟩
def RX12 : String := "PalmHoursModel"
def TX12 : u_T := fun k => match k with
  | 0 => ("PalmHoursModel", "tape", "[I", true)
  | 1 => ("PalmHoursModel", "taped", "I", false)
  | 2 => ("PalmHoursModel", "size", "I", false)
  | 3 => ("PalmHoursModel", "sign", "I", false)
  | 4 => ("PalmHoursModel", "signAt", "I", false)
  | 5 => ("PalmHoursModel", "signEnd", "I", false)
  | 6 => ("PalmHoursModel", "value", "I", false)
  | 7 => ("PalmHoursModel", "word", "J", false)
  | 8 => ("PalmHoursModel", "faultKind", "I", false)
  | 9 => ("PalmHoursModel", "faultPlace", "I", false)
  | 10 => ("PalmHoursModel", "toldKind", "I", false)
  | 11 => ("PalmHoursModel", "toldPlace", "I", false)
  | 12 => ("PalmHoursModel", "lexAt", "I", false)
  | 13 => ("PalmHoursModel", "bank", "I", false)
  | 14 => ("PalmHoursModel", "things", "[I", true)
  | 15 => ("PalmHoursModel", "weighOf", "[I", true)
  | 16 => ("PalmHoursModel", "lastsOf", "[I", true)
  | 17 => ("PalmHoursModel", "corners", "[I", true)
  | 18 => ("PalmHoursModel", "palmTold", "[I", true)
  | 19 => ("PalmHoursModel", "roads", "[I", true)
  | 20 => ("PalmHoursModel", "stepsOf", "[I", true)
  | 21 => ("PalmHoursModel", "farOf", "[I", true)
  | 22 => ("PalmHoursModel", "doings", "[I", true)
  | 23 => ("PalmHoursModel", "atOf", "[I", true)
  | 24 => ("PalmHoursModel", "hourOf", "[I", true)
  | 25 => ("PalmHoursModel", "passTold", "[I", true)
  | 26 => ("PalmHoursModel", "sumFrom", "[I", true)
  | 27 => ("PalmHoursModel", "sumBehind", "[I", true)
  | 28 => ("PalmHoursModel", "codeSort", "[I", true)
  | 29 => ("PalmHoursModel", "codeValue", "[I", true)
  | 30 => ("PalmHoursModel", "thingName", "[J", true)
  | 31 => ("PalmHoursModel", "cornerName", "[J", true)
  | 32 => ("PalmHoursModel", "doingName", "[J", true)
  | 33 => ("PalmHoursModel", "codes", "I", false)
  | 34 => ("PalmHoursModel", "in", "I", false)
  | 35 => ("PalmHoursModel", "isGone", "Z", false)
  | 36 => ("PalmHoursModel", "frame", "[I", true)
  | 37 => ("PalmHoursModel", "phase", "[I", true)
  | 38 => ("PalmHoursModel", "begins", "[Z", true)
  | 39 => ("PalmHoursModel", "pair", "[I", true)
  | 40 => ("PalmHoursModel", "base", "[I", true)
  | 41 => ("PalmHoursModel", "deep", "I", false)
  | 42 => ("PalmHoursModel", "open", "I", false)
  | 43 => ("PalmHoursModel", "ops", "[I", true)
  | 44 => ("PalmHoursModel", "opMany", "I", false)
  | 45 => ("PalmHoursModel", "operand", "Z", false)
  | 46 => ("PalmHoursModel", "refused", "[I", true)
  | 47 => ("PalmHoursModel", "minuteOf", "[I", true)
  | 48 => ("PalmHoursModel", "thingOf", "[I", true)
  | 49 => ("PalmHoursModel", "heldOf", "[I", true)
  | 50 => ("PalmHoursModel", "doneOf", "[I", true)
  | 51 => ("PalmHoursModel", "keptMany", "[I", true)
  | 52 => ("PalmHoursModel", "keptRow", "[I", true)
  | 53 => ("PalmHoursModel", "undoFirst", "I", false)
  | 54 => ("PalmHoursModel", "undos", "I", false)
  | 55 => ("PalmHoursModel", "seeds", "J", false)
  | 56 => ("PalmHoursModel", "stack", "[J", true)
  | 57 => ("PalmHoursModel", "asked", "[I", true)
  | 58 => ("PalmHoursModel", "given", "[I", true)
  | 59 => ("PalmHoursModel", "bestGiven", "[I", true)
  | 60 => ("PalmHoursModel", "walkAt", "[I", true)
  | 61 => ("PalmHoursModel", "rows", "I", false)
  | 62 => ("PalmHoursModel", "rowMinutes", "[I", true)
  | 63 => ("PalmHoursModel", "rowCorner", "[I", true)
  | 64 => ("PalmHoursModel", "rowHour", "[I", true)
  | 65 => ("PalmHoursModel", "hourBy", "[I", true)
  | 66 => ("PalmHoursModel", "out", "[I", true)
  | _ => ("PalmHoursModel", "outs", "I", false)
def tyX12 : Nat → FieldType := fun k => match k with
  | 0 => .array .int
  | 1 => .int
  | 2 => .int
  | 3 => .int
  | 4 => .int
  | 5 => .int
  | 6 => .int
  | 7 => .long
  | 8 => .int
  | 9 => .int
  | 10 => .int
  | 11 => .int
  | 12 => .int
  | 13 => .int
  | 14 => .array .int
  | 15 => .array .int
  | 16 => .array .int
  | 17 => .array .int
  | 18 => .array .int
  | 19 => .array .int
  | 20 => .array .int
  | 21 => .array .int
  | 22 => .array .int
  | 23 => .array .int
  | 24 => .array .int
  | 25 => .array .int
  | 26 => .array .int
  | 27 => .array .int
  | 28 => .array .int
  | 29 => .array .int
  | 30 => .array .long
  | 31 => .array .long
  | 32 => .array .long
  | 33 => .int
  | 34 => .int
  | 35 => .boolean
  | 36 => .array .int
  | 37 => .array .int
  | 38 => .array .boolean
  | 39 => .array .int
  | 40 => .array .int
  | 41 => .int
  | 42 => .int
  | 43 => .array .int
  | 44 => .int
  | 45 => .boolean
  | 46 => .array .int
  | 47 => .array .int
  | 48 => .array .int
  | 49 => .array .int
  | 50 => .array .int
  | 51 => .array .int
  | 52 => .array .int
  | 53 => .int
  | 54 => .int
  | 55 => .long
  | 56 => .array .long
  | 57 => .array .int
  | 58 => .array .int
  | 59 => .array .int
  | 60 => .array .int
  | 61 => .int
  | 62 => .array .int
  | 63 => .array .int
  | 64 => .array .int
  | 65 => .array .int
  | 66 => .array .int
  | _ => .int
abbrev wsX120 : List Cond := u_ws RX12 TX12 68
theorem nmX12 : ∀ a, a < 68 → ∀ b, b < 68 → a ≠ b → (TX12 a).2.1 ≠ (TX12 b).2.1 := by decide +kernel
theorem tyX12_ok : ∀ k, k < 68 → parseFieldDescriptor (TX12 k).2.2.1 = some (tyX12 k) := by decide +kernel
abbrev cX12_init : ByteArray := prog_14_method_1_code
def yX12_init : MethodName := ⟨RX12, "<init>", "()V"⟩
abbrev cX12_is : ByteArray := prog_14_method_2_code
def yX12_is : MethodName := ⟨RX12, "is", "(III)Z"⟩
abbrev cX12_put : ByteArray := prog_14_method_3_code
def yX12_put : MethodName := ⟨RX12, "put", "(I)V"⟩
abbrev cX12_feed : ByteArray := prog_14_method_4_code
def yX12_feed : MethodName := ⟨RX12, "feed", "(IIIII)I"⟩
abbrev cX12_end : ByteArray := prog_14_method_5_code
def yX12_end : MethodName := ⟨RX12, "end", "(I)Z"⟩
abbrev cX12_blame : ByteArray := prog_14_method_6_code
def yX12_blame : MethodName := ⟨RX12, "blame", "(II)V"⟩
abbrev cX12_isLetter : ByteArray := prog_14_method_7_code
def yX12_isLetter : MethodName := ⟨RX12, "isLetter", "(I)Z"⟩
abbrev cX12_isDigit : ByteArray := prog_14_method_8_code
def yX12_isDigit : MethodName := ⟨RX12, "isDigit", "(I)Z"⟩
abbrev cX12_lex : ByteArray := prog_14_method_9_code
def yX12_lex : MethodName := ⟨RX12, "lex", "()V"⟩
abbrev cX12_ahead : ByteArray := prog_14_method_10_code
def yX12_ahead : MethodName := ⟨RX12, "ahead", "()V"⟩
abbrev cX12_isSign : ByteArray := prog_14_method_11_code
def yX12_isSign : MethodName := ⟨RX12, "isSign", "(I)Z"⟩
abbrev cX12_isWord : ByteArray := prog_14_method_12_code
def yX12_isWord : MethodName := ⟨RX12, "isWord", "(J)Z"⟩
abbrev cX12_must : ByteArray := prog_14_method_13_code
def yX12_must : MethodName := ⟨RX12, "must", "(I)V"⟩
abbrev cX12_isOwn : ByteArray := prog_14_method_14_code
def yX12_isOwn : MethodName := ⟨RX12, "isOwn", "(J)Z"⟩
abbrev cX12_manyOf : ByteArray := prog_14_method_15_code
def yX12_manyOf : MethodName := ⟨RX12, "manyOf", "(II)I"⟩
abbrev cX12_nameOf : ByteArray := prog_14_method_16_code
def yX12_nameOf : MethodName := ⟨RX12, "nameOf", "(III)J"⟩
abbrev cX12_named : ByteArray := prog_14_method_17_code
def yX12_named : MethodName := ⟨RX12, "named", "(IJ)I"⟩
abbrev cX12_number : ByteArray := prog_14_method_18_code
def yX12_number : MethodName := ⟨RX12, "number", "(II)I"⟩
abbrev cX12_add : ByteArray := prog_14_method_19_code
def yX12_add : MethodName := ⟨RX12, "add", "(II)V"⟩
abbrev cX12_rank : ByteArray := prog_14_method_20_code
def yX12_rank : MethodName := ⟨RX12, "rank", "(I)I"⟩
abbrev cX12_joins : ByteArray := prog_14_method_21_code
def yX12_joins : MethodName := ⟨RX12, "joins", "(I)V"⟩
abbrev cX12_holdsBack : ByteArray := prog_14_method_22_code
def yX12_holdsBack : MethodName := ⟨RX12, "holdsBack", "(I)V"⟩
abbrev cX12_pushes : ByteArray := prog_14_method_23_code
def yX12_pushes : MethodName := ⟨RX12, "pushes", "(I)V"⟩
abbrev cX12_opens : ByteArray := prog_14_method_24_code
def yX12_opens : MethodName := ⟨RX12, "opens", "(I)V"⟩
abbrev cX12_isTest : ByteArray := prog_14_method_25_code
def yX12_isTest : MethodName := ⟨RX12, "isTest", "(I)Z"⟩
abbrev cX12_operand : ByteArray := prog_14_method_26_code
def yX12_operand : MethodName := ⟨RX12, "operand", "()Z"⟩
abbrev cX12_goesOn : ByteArray := prog_14_method_27_code
def yX12_goesOn : MethodName := ⟨RX12, "goesOn", "()Z"⟩
abbrev cX12_reads : ByteArray := prog_14_method_28_code
def yX12_reads : MethodName := ⟨RX12, "reads", "(Z)V"⟩
abbrev cX12_counts : ByteArray := prog_14_method_29_code
def yX12_counts : MethodName := ⟨RX12, "counts", "(Z)Z"⟩
abbrev cX12_must_ : ByteArray := prog_14_method_30_code
def yX12_must_ : MethodName := ⟨RX12, "must", "(J)V"⟩
abbrev cX12_has2 : ByteArray := prog_14_method_31_code
def yX12_has2 : MethodName := ⟨RX12, "has2", "(II)Z"⟩
abbrev cX12_fresh : ByteArray := prog_14_method_32_code
def yX12_fresh : MethodName := ⟨RX12, "fresh", "()J"⟩
abbrev cX12_knownBut : ByteArray := prog_14_method_33_code
def yX12_knownBut : MethodName := ⟨RX12, "knownBut", "(II)I"⟩
abbrev cX12_at : ByteArray := prog_14_method_34_code
def yX12_at : MethodName := ⟨RX12, "at", "(III)I"⟩
abbrev cX12_thinging : ByteArray := prog_14_method_35_code
def yX12_thinging : MethodName := ⟨RX12, "thinging", "()V"⟩
abbrev cX12_cornering : ByteArray := prog_14_method_36_code
def yX12_cornering : MethodName := ⟨RX12, "cornering", "()V"⟩
abbrev cX12_roading : ByteArray := prog_14_method_37_code
def yX12_roading : MethodName := ⟨RX12, "roading", "()V"⟩
abbrev cX12_palming : ByteArray := prog_14_method_38_code
def yX12_palming : MethodName := ⟨RX12, "palming", "()V"⟩
abbrev cX12_doings : ByteArray := prog_14_method_39_code
def yX12_doings : MethodName := ⟨RX12, "doings", "()V"⟩
abbrev cX12_reading : ByteArray := prog_14_method_40_code
def yX12_reading : MethodName := ⟨RX12, "reading", "(I)V"⟩
abbrev cX12_passing : ByteArray := prog_14_method_41_code
def yX12_passing : MethodName := ⟨RX12, "passing", "()V"⟩
abbrev cX12_statement : ByteArray := prog_14_method_42_code
def yX12_statement : MethodName := ⟨RX12, "statement", "()V"⟩
abbrev cX12_finishes : ByteArray := prog_14_method_43_code
def yX12_finishes : MethodName := ⟨RX12, "finishes", "(I)V"⟩
abbrev cX12_measures : ByteArray := prog_14_method_44_code
def yX12_measures : MethodName := ⟨RX12, "measures", "()V"⟩
abbrev cX12_town : ByteArray := prog_14_method_45_code
def yX12_town : MethodName := ⟨RX12, "town", "()I"⟩
abbrev cX12_fault : ByteArray := prog_14_method_46_code
def yX12_fault : MethodName := ⟨RX12, "fault", "(I)I"⟩
abbrev cX12_refuses : ByteArray := prog_14_method_47_code
def yX12_refuses : MethodName := ⟨RX12, "refuses", "(I)I"⟩
abbrev cX12_status : ByteArray := prog_14_method_48_code
def yX12_status : MethodName := ⟨RX12, "status", "(I)I"⟩
abbrev cX12_copies : ByteArray := prog_14_method_49_code
def yX12_copies : MethodName := ⟨RX12, "copies", "(II)V"⟩
abbrev cX12_begin : ByteArray := prog_14_method_50_code
def yX12_begin : MethodName := ⟨RX12, "begin", "()V"⟩
abbrev cX12_slot : ByteArray := prog_14_method_51_code
def yX12_slot : MethodName := ⟨RX12, "slot", "(I)I"⟩
abbrev cX12_keeps : ByteArray := prog_14_method_52_code
def yX12_keeps : MethodName := ⟨RX12, "keeps", "()V"⟩
abbrev cX12_undo : ByteArray := prog_14_method_53_code
def yX12_undo : MethodName := ⟨RX12, "undo", "()Z"⟩
abbrev cX12_within : ByteArray := prog_14_method_54_code
def yX12_within : MethodName := ⟨RX12, "within", "(J)J"⟩
abbrev cX12_floor : ByteArray := prog_14_method_55_code
def yX12_floor : MethodName := ⟨RX12, "floor", "(JJ)J"⟩
abbrev cX12_two : ByteArray := prog_14_method_56_code
def yX12_two : MethodName := ⟨RX12, "two", "(IJJ)J"⟩
abbrev cX12_reckons : ByteArray := prog_14_method_57_code
def yX12_reckons : MethodName := ⟨RX12, "reckons", "(I)J"⟩
abbrev cX12_isTold : ByteArray := prog_14_method_58_code
def yX12_isTold : MethodName := ⟨RX12, "isTold", "(I)Z"⟩
abbrev cX12_lays : ByteArray := prog_14_method_59_code
def yX12_lays : MethodName := ⟨RX12, "lays", "(II)V"⟩
abbrev cX12_hour : ByteArray := prog_14_method_60_code
def yX12_hour : MethodName := ⟨RX12, "hour", "(II)I"⟩
abbrev cX12_writesDown : ByteArray := prog_14_method_61_code
def yX12_writesDown : MethodName := ⟨RX12, "writesDown", "(II)V"⟩
abbrev cX12_finishesDoings : ByteArray := prog_14_method_62_code
def yX12_finishesDoings : MethodName := ⟨RX12, "finishesDoings", "(I)I"⟩
abbrev cX12_puts : ByteArray := prog_14_method_63_code
def yX12_puts : MethodName := ⟨RX12, "puts", "(III)V"⟩
abbrev cX12_isGone : ByteArray := prog_14_method_64_code
def yX12_isGone : MethodName := ⟨RX12, "isGone", "(II)Z"⟩
abbrev cX12_ticks : ByteArray := prog_14_method_65_code
def yX12_ticks : MethodName := ⟨RX12, "ticks", "(I)V"⟩
abbrev cX12_passes : ByteArray := prog_14_method_66_code
def yX12_passes : MethodName := ⟨RX12, "passes", "(I)I"⟩
abbrev cX12_bits : ByteArray := prog_14_method_67_code
def yX12_bits : MethodName := ⟨RX12, "bits", "(I)I"⟩
abbrev cX12_isThing : ByteArray := prog_14_method_68_code
def yX12_isThing : MethodName := ⟨RX12, "isThing", "(I)Z"⟩
abbrev cX12_isCorner : ByteArray := prog_14_method_69_code
def yX12_isCorner : MethodName := ⟨RX12, "isCorner", "(I)Z"⟩
abbrev cX12_isDoing : ByteArray := prog_14_method_70_code
def yX12_isDoing : MethodName := ⟨RX12, "isDoing", "(I)Z"⟩
abbrev cX12_has : ByteArray := prog_14_method_71_code
def yX12_has : MethodName := ⟨RX12, "has", "(I)I"⟩
abbrev cX12_letter : ByteArray := prog_14_method_72_code
def yX12_letter : MethodName := ⟨RX12, "letter", "(III)I"⟩
abbrev cX12_thing : ByteArray := prog_14_method_73_code
def yX12_thing : MethodName := ⟨RX12, "thing", "(II)I"⟩
abbrev cX12_corner : ByteArray := prog_14_method_74_code
def yX12_corner : MethodName := ⟨RX12, "corner", "(II)I"⟩
abbrev cX12_doing : ByteArray := prog_14_method_75_code
def yX12_doing : MethodName := ⟨RX12, "doing", "(II)I"⟩
abbrev cX12_isAhead : ByteArray := prog_14_method_76_code
def yX12_isAhead : MethodName := ⟨RX12, "isAhead", "(III)Z"⟩
abbrev cX12_later : ByteArray := prog_14_method_77_code
def yX12_later : MethodName := ⟨RX12, "later", "(II)I"⟩
abbrev cX12_when : ByteArray := prog_14_method_78_code
def yX12_when : MethodName := ⟨RX12, "when", "(I)I"⟩
abbrev cX12_alike : ByteArray := prog_14_method_79_code
def yX12_alike : MethodName := ⟨RX12, "alike", "(II)I"⟩
abbrev cX12_isDoneBy : ByteArray := prog_14_method_80_code
def yX12_isDoneBy : MethodName := ⟨RX12, "isDoneBy", "(II)Z"⟩
abbrev cX12_plan : ByteArray := prog_14_method_81_code
def yX12_plan : MethodName := ⟨RX12, "plan", "(III)I"⟩
abbrev cX12_evening : ByteArray := prog_14_method_82_code
def yX12_evening : MethodName := ⟨RX12, "evening", "(II)I"⟩
abbrev cX12_odds : ByteArray := prog_14_method_83_code
def yX12_odds : MethodName := ⟨RX12, "odds", "(III)J"⟩
abbrev cX12_way : ByteArray := prog_14_method_84_code
def yX12_way : MethodName := ⟨RX12, "way", "(II)I"⟩
abbrev cX12_arrive : ByteArray := prog_14_method_85_code
def yX12_arrive : MethodName := ⟨RX12, "arrive", "(II)I"⟩
abbrev cX12_early : ByteArray := prog_14_method_86_code
def yX12_early : MethodName := ⟨RX12, "early", "(I)I"⟩
abbrev cX12_see : ByteArray := prog_14_method_87_code
def yX12_see : MethodName := ⟨RX12, "see", "()I"⟩
abbrev cX12_heldBits : ByteArray := prog_14_method_88_code
def yX12_heldBits : MethodName := ⟨RX12, "heldBits", "(I)I"⟩
abbrev cX12_held : ByteArray := prog_14_method_89_code
def yX12_held : MethodName := ⟨RX12, "held", "(I)I"⟩
abbrev cX12_tells : ByteArray := prog_14_method_90_code
def yX12_tells : MethodName := ⟨RX12, "tells", "(II)I"⟩
abbrev cX12_minutes : ByteArray := prog_14_method_91_code
def yX12_minutes : MethodName := ⟨RX12, "minutes", "(I)I"⟩
abbrev cX12_draw : ByteArray := prog_14_method_92_code
def yX12_draw : MethodName := ⟨RX12, "draw", "(I)I"⟩
abbrev cX12_chance : ByteArray := prog_14_method_93_code
def yX12_chance : MethodName := ⟨RX12, "chance", "(I)I"⟩
abbrev cX12_give : ByteArray := prog_14_method_94_code
def yX12_give : MethodName := ⟨RX12, "give", "(II)I"⟩
abbrev cX12_take : ByteArray := prog_14_method_95_code
def yX12_take : MethodName := ⟨RX12, "take", "(I)I"⟩
abbrev cX12_seed : ByteArray := prog_14_method_96_code
def yX12_seed : MethodName := ⟨RX12, "seed", "(I)Z"⟩
abbrev cX12_kept : ByteArray := prog_14_method_97_code
def yX12_kept : MethodName := ⟨RX12, "kept", "(II)I"⟩
abbrev cX12_writes : ByteArray := prog_14_method_98_code
def yX12_writes : MethodName := ⟨RX12, "writes", "(I)V"⟩
abbrev cX12_image : ByteArray := prog_14_method_99_code
def yX12_image : MethodName := ⟨RX12, "image", "()I"⟩
abbrev cX12_octet : ByteArray := prog_14_method_100_code
def yX12_octet : MethodName := ⟨RX12, "octet", "(I)I"⟩
abbrev cX12_cornerOn : ByteArray := prog_14_method_101_code
def yX12_cornerOn : MethodName := ⟨RX12, "cornerOn", "(II)Z"⟩
abbrev cX12_comesOn : ByteArray := prog_14_method_102_code
def yX12_comesOn : MethodName := ⟨RX12, "comesOn", "(I)Z"⟩
abbrev cX12_on : ByteArray := prog_14_method_103_code
def yX12_on : MethodName := ⟨RX12, "on", "()Z"⟩
def RJ9 : String := "java/lang/Math"
def TJ9 : u_T := fun k => match k with
  | _ => ("", "", "", false)
def tyJ9 : Nat → FieldType := fun k => match k with
  | _ => .int
theorem nmJ9 : ∀ a, a < 0 → ∀ b, b < 0 → a ≠ b → (TJ9 a).2.1 ≠ (TJ9 b).2.1 := by decide +kernel
theorem tyJ9_ok : ∀ k, k < 0 → parseFieldDescriptor (TJ9 k).2.2.1 = some (tyJ9 k) := by decide +kernel
abbrev cJ9_floorDiv_7cf53 : ByteArray := prog_15_method_47_code
def yJ9_floorDiv_7cf53 : MethodName := ⟨RJ9, "floorDiv", "(II)I"⟩
abbrev cJ9_floorMod_7cf53 : ByteArray := prog_15_method_50_code
def yJ9_floorMod_7cf53 : MethodName := ⟨RJ9, "floorMod", "(II)I"⟩
abbrev cJ9_max_7cf53 : ByteArray := prog_15_method_65_code
def yJ9_max_7cf53 : MethodName := ⟨RJ9, "max", "(II)I"⟩
abbrev cJ9_max_f86c9 : ByteArray := prog_15_method_66_code
def yJ9_max_f86c9 : MethodName := ⟨RJ9, "max", "(JJ)J"⟩
abbrev cJ9_min_7cf53 : ByteArray := prog_15_method_69_code
def yJ9_min_7cf53 : MethodName := ⟨RJ9, "min", "(II)I"⟩
abbrev cJ9_min_f86c9 : ByteArray := prog_15_method_70_code
def yJ9_min_f86c9 : MethodName := ⟨RJ9, "min", "(JJ)J"⟩
def RJ0 : String := "java/lang/String"
def TJ0 : u_T := fun k => match k with
  | _ => ("", "", "", false)
def tyJ0 : Nat → FieldType := fun k => match k with
  | _ => .int
theorem nmJ0 : ∀ a, a < 0 → ∀ b, b < 0 → a ≠ b → (TJ0 a).2.1 ≠ (TJ0 b).2.1 := by decide +kernel
theorem tyJ0_ok : ∀ k, k < 0 → parseFieldDescriptor (TJ0 k).2.2.1 = some (tyJ0 k) := by decide +kernel
abbrev cJ0_length_8abf5 : ByteArray := prog_16_method_54_code
def yJ0_length_8abf5 : MethodName := ⟨RJ0, "length", "()I"⟩
abbrev cJ0_charAt_5068e : ByteArray := prog_16_method_56_code
def yJ0_charAt_5068e : MethodName := ⟨RJ0, "charAt", "(I)C"⟩
abbrev cJ0_coder_7d493 : ByteArray := prog_16_method_152_code
def yJ0_coder_7d493 : MethodName := ⟨RJ0, "coder", "()B"⟩
abbrev cJ0_isLatin1_aae02 : ByteArray := prog_16_method_154_code
def yJ0_isLatin1_aae02 : MethodName := ⟨RJ0, "isLatin1", "()Z"⟩
abbrev cJ0_checkIndex_df160 : ByteArray := prog_16_method_155_code
def yJ0_checkIndex_df160 : MethodName := ⟨RJ0, "checkIndex", "(II)V"⟩
def RJ1 : String := "java/lang/StringLatin1"
def TJ1 : u_T := fun k => match k with
  | _ => ("", "", "", false)
def tyJ1 : Nat → FieldType := fun k => match k with
  | _ => .int
theorem nmJ1 : ∀ a, a < 0 → ∀ b, b < 0 → a ≠ b → (TJ1 a).2.1 ≠ (TJ1 b).2.1 := by decide +kernel
theorem tyJ1_ok : ∀ k, k < 0 → parseFieldDescriptor (TJ1 k).2.2.1 = some (tyJ1 k) := by decide +kernel
abbrev cJ1_charAt_3b067 : ByteArray := prog_17_method_2_code
def yJ1_charAt_3b067 : MethodName := ⟨RJ1, "charAt", "([BI)C"⟩
def RJ2 : String := "java/lang/StringUTF16"
def TJ2 : u_T := fun k => match k with
  | _ => ("", "", "", false)
def tyJ2 : Nat → FieldType := fun k => match k with
  | _ => .int
theorem nmJ2 : ∀ a, a < 0 → ∀ b, b < 0 → a ≠ b → (TJ2 a).2.1 ≠ (TJ2 b).2.1 := by decide +kernel
theorem tyJ2_ok : ∀ k, k < 0 → parseFieldDescriptor (TJ2 k).2.2.1 = some (tyJ2 k) := by decide +kernel
abbrev cJ2_getChar_3b067 : ByteArray := prog_18_method_5_code
def yJ2_getChar_3b067 : MethodName := ⟨RJ2, "getChar", "([BI)C"⟩
abbrev cJ2_length_9d52b : ByteArray := prog_18_method_6_code
def yJ2_length_9d52b : MethodName := ⟨RJ2, "length", "([B)I"⟩
abbrev cJ2_charAt_3b067 : ByteArray := prog_18_method_83_code
def yJ2_charAt_3b067 : MethodName := ⟨RJ2, "charAt", "([BI)C"⟩
abbrev cJ2_checkIndex_2214a : ByteArray := prog_18_method_91_code
def yJ2_checkIndex_2214a : MethodName := ⟨RJ2, "checkIndex", "(I[B)V"⟩
def RJ10 : String := "java/lang/System"
def TJ10 : u_T := fun k => match k with
  | _ => ("", "", "", false)
def tyJ10 : Nat → FieldType := fun k => match k with
  | _ => .int
theorem nmJ10 : ∀ a, a < 0 → ∀ b, b < 0 → a ≠ b → (TJ10 a).2.1 ≠ (TJ10 b).2.1 := by decide +kernel
theorem tyJ10_ok : ∀ k, k < 0 → parseFieldDescriptor (TJ10 k).2.2.1 = some (tyJ10 k) := by decide +kernel
def RJ3 : String := "jdk/internal/util/Preconditions"
def TJ3 : u_T := fun k => match k with
  | _ => ("", "", "", false)
def tyJ3 : Nat → FieldType := fun k => match k with
  | _ => .int
theorem nmJ3 : ∀ a, a < 0 → ∀ b, b < 0 → a ≠ b → (TJ3 a).2.1 ≠ (TJ3 b).2.1 := by decide +kernel
theorem tyJ3_ok : ∀ k, k < 0 → parseFieldDescriptor (TJ3 k).2.2.1 = some (tyJ3 k) := by decide +kernel
abbrev cJ3_checkIndex_8e157 : ByteArray := prog_20_method_11_code
def yJ3_checkIndex_8e157 : MethodName := ⟨RJ3, "checkIndex", "(IILjava/util/function/BiFunction;)I"⟩
def RL : String := "PalmHoursLaw"
abbrev cL_law : ByteArray := code
def yL_law : MethodName := ⟨RL, "law", "([I)Z"⟩
abbrev vwCl : List vw_C := [(RX0, TX0, 2), (RX1, TX1, 8), (RX2, TX2, 3), (RX3, TX3, 3), (RX4, TX4, 3), (RX5, TX5, 5), (RX6, TX6, 8), (RX7, TX7, 2), (RX8, TX8, 9), (RX9, TX9, 19), (RX10, TX10, 2), (RX11, TX11, 18), (RX12, TX12, 68)]
end
section
def dk (c : ByteArray) (l : List (Nat × ClassFile.Instr × Nat)) : Bool := l.all fun x => decide (decode c x.1 = .ok (x.2.1, x.2.2))
theorem dk_i {c : ByteArray} {l : List (Nat × ClassFile.Instr × Nat)} {pc n : Nat} {i : ClassFile.Instr} (h : dk c l = true) (k : Nat) (e : l[k]? = some (pc, i, n)) : decode c pc = .ok (i, n) := by
  unfold dk at h
  rw [List.all_eq_true] at h
  have h2 := h (pc, i, n) (List.mem_of_getElem? e)
  exact of_decide_eq_true h2
end
section
def ldJ0_length_8abf5_0 : List (Nat × ClassFile.Instr × Nat) := [(0, .aload_n 0, 1), (1, .getfield 9, 3), (4, .arraylength, 1), (5, .aload_n 0, 1), (6, .invokevirtual 335, 3), (9, .ishr, 1), (10, .ireturn, 1)]
theorem kdJ0_length_8abf5_0 : dk cJ0_length_8abf5 ldJ0_length_8abf5_0 = true := by decide +kernel
theorem dJ0_length_8abf5_0 : decode cJ0_length_8abf5 0 = .ok (.aload_n 0, 1) := dk_i kdJ0_length_8abf5_0 0 rfl
theorem dJ0_length_8abf5_1 : decode cJ0_length_8abf5 1 = .ok (.getfield 9, 3) := dk_i kdJ0_length_8abf5_0 1 rfl
theorem dJ0_length_8abf5_4 : decode cJ0_length_8abf5 4 = .ok (.arraylength, 1) := dk_i kdJ0_length_8abf5_0 2 rfl
theorem dJ0_length_8abf5_5 : decode cJ0_length_8abf5 5 = .ok (.aload_n 0, 1) := dk_i kdJ0_length_8abf5_0 3 rfl
theorem dJ0_length_8abf5_6 : decode cJ0_length_8abf5 6 = .ok (.invokevirtual 335, 3) := dk_i kdJ0_length_8abf5_0 4 rfl
theorem dJ0_length_8abf5_9 : decode cJ0_length_8abf5 9 = .ok (.ishr, 1) := dk_i kdJ0_length_8abf5_0 5 rfl
theorem dJ0_length_8abf5_10 : decode cJ0_length_8abf5 10 = .ok (.ireturn, 1) := dk_i kdJ0_length_8abf5_0 6 rfl
def ldJ0_charAt_5068e_0 : List (Nat × ClassFile.Instr × Nat) := [(0, .aload_n 0, 1), (1, .invokevirtual 492, 3), (4, .ifCond .eq 12, 3), (7, .aload_n 0, 1), (8, .getfield 9, 3), (11, .iload_n 1, 1), (12, .invokestatic 495, 3), (15, .ireturn, 1), (16, .aload_n 0, 1), (17, .getfield 9, 3), (20, .iload_n 1, 1), (21, .invokestatic 498, 3), (24, .ireturn, 1)]
theorem kdJ0_charAt_5068e_0 : dk cJ0_charAt_5068e ldJ0_charAt_5068e_0 = true := by decide +kernel
theorem dJ0_charAt_5068e_0 : decode cJ0_charAt_5068e 0 = .ok (.aload_n 0, 1) := dk_i kdJ0_charAt_5068e_0 0 rfl
theorem dJ0_charAt_5068e_1 : decode cJ0_charAt_5068e 1 = .ok (.invokevirtual 492, 3) := dk_i kdJ0_charAt_5068e_0 1 rfl
theorem dJ0_charAt_5068e_4 : decode cJ0_charAt_5068e 4 = .ok (.ifCond .eq 12, 3) := dk_i kdJ0_charAt_5068e_0 2 rfl
theorem dJ0_charAt_5068e_7 : decode cJ0_charAt_5068e 7 = .ok (.aload_n 0, 1) := dk_i kdJ0_charAt_5068e_0 3 rfl
theorem dJ0_charAt_5068e_8 : decode cJ0_charAt_5068e 8 = .ok (.getfield 9, 3) := dk_i kdJ0_charAt_5068e_0 4 rfl
theorem dJ0_charAt_5068e_11 : decode cJ0_charAt_5068e 11 = .ok (.iload_n 1, 1) := dk_i kdJ0_charAt_5068e_0 5 rfl
theorem dJ0_charAt_5068e_12 : decode cJ0_charAt_5068e 12 = .ok (.invokestatic 495, 3) := dk_i kdJ0_charAt_5068e_0 6 rfl
theorem dJ0_charAt_5068e_15 : decode cJ0_charAt_5068e 15 = .ok (.ireturn, 1) := dk_i kdJ0_charAt_5068e_0 7 rfl
theorem dJ0_charAt_5068e_16 : decode cJ0_charAt_5068e 16 = .ok (.aload_n 0, 1) := dk_i kdJ0_charAt_5068e_0 8 rfl
theorem dJ0_charAt_5068e_17 : decode cJ0_charAt_5068e 17 = .ok (.getfield 9, 3) := dk_i kdJ0_charAt_5068e_0 9 rfl
theorem dJ0_charAt_5068e_20 : decode cJ0_charAt_5068e 20 = .ok (.iload_n 1, 1) := dk_i kdJ0_charAt_5068e_0 10 rfl
theorem dJ0_charAt_5068e_21 : decode cJ0_charAt_5068e 21 = .ok (.invokestatic 498, 3) := dk_i kdJ0_charAt_5068e_0 11 rfl
theorem dJ0_charAt_5068e_24 : decode cJ0_charAt_5068e 24 = .ok (.ireturn, 1) := dk_i kdJ0_charAt_5068e_0 12 rfl
def ldJ0_coder_7d493_0 : List (Nat × ClassFile.Instr × Nat) := [(0, .getstatic 38, 3), (3, .ifCond .eq 10, 3), (6, .aload_n 0, 1), (7, .getfield 15, 3), (10, .goto 4, 3), (13, .iconst 1, 1), (14, .ireturn, 1)]
theorem kdJ0_coder_7d493_0 : dk cJ0_coder_7d493 ldJ0_coder_7d493_0 = true := by decide +kernel
theorem dJ0_coder_7d493_0 : decode cJ0_coder_7d493 0 = .ok (.getstatic 38, 3) := dk_i kdJ0_coder_7d493_0 0 rfl
theorem dJ0_coder_7d493_3 : decode cJ0_coder_7d493 3 = .ok (.ifCond .eq 10, 3) := dk_i kdJ0_coder_7d493_0 1 rfl
theorem dJ0_coder_7d493_6 : decode cJ0_coder_7d493 6 = .ok (.aload_n 0, 1) := dk_i kdJ0_coder_7d493_0 2 rfl
theorem dJ0_coder_7d493_7 : decode cJ0_coder_7d493 7 = .ok (.getfield 15, 3) := dk_i kdJ0_coder_7d493_0 3 rfl
theorem dJ0_coder_7d493_10 : decode cJ0_coder_7d493 10 = .ok (.goto 4, 3) := dk_i kdJ0_coder_7d493_0 4 rfl
theorem dJ0_coder_7d493_13 : decode cJ0_coder_7d493 13 = .ok (.iconst 1, 1) := dk_i kdJ0_coder_7d493_0 5 rfl
theorem dJ0_coder_7d493_14 : decode cJ0_coder_7d493 14 = .ok (.ireturn, 1) := dk_i kdJ0_coder_7d493_0 6 rfl
def ldJ0_isLatin1_aae02_0 : List (Nat × ClassFile.Instr × Nat) := [(0, .getstatic 38, 3), (3, .ifCond .eq 14, 3), (6, .aload_n 0, 1), (7, .getfield 15, 3), (10, .ifCond .ne 7, 3), (13, .iconst 1, 1), (14, .goto 4, 3), (17, .iconst 0, 1), (18, .ireturn, 1)]
theorem kdJ0_isLatin1_aae02_0 : dk cJ0_isLatin1_aae02 ldJ0_isLatin1_aae02_0 = true := by decide +kernel
theorem dJ0_isLatin1_aae02_0 : decode cJ0_isLatin1_aae02 0 = .ok (.getstatic 38, 3) := dk_i kdJ0_isLatin1_aae02_0 0 rfl
theorem dJ0_isLatin1_aae02_3 : decode cJ0_isLatin1_aae02 3 = .ok (.ifCond .eq 14, 3) := dk_i kdJ0_isLatin1_aae02_0 1 rfl
theorem dJ0_isLatin1_aae02_6 : decode cJ0_isLatin1_aae02 6 = .ok (.aload_n 0, 1) := dk_i kdJ0_isLatin1_aae02_0 2 rfl
theorem dJ0_isLatin1_aae02_7 : decode cJ0_isLatin1_aae02 7 = .ok (.getfield 15, 3) := dk_i kdJ0_isLatin1_aae02_0 3 rfl
theorem dJ0_isLatin1_aae02_10 : decode cJ0_isLatin1_aae02 10 = .ok (.ifCond .ne 7, 3) := dk_i kdJ0_isLatin1_aae02_0 4 rfl
theorem dJ0_isLatin1_aae02_13 : decode cJ0_isLatin1_aae02 13 = .ok (.iconst 1, 1) := dk_i kdJ0_isLatin1_aae02_0 5 rfl
theorem dJ0_isLatin1_aae02_14 : decode cJ0_isLatin1_aae02 14 = .ok (.goto 4, 3) := dk_i kdJ0_isLatin1_aae02_0 6 rfl
theorem dJ0_isLatin1_aae02_17 : decode cJ0_isLatin1_aae02 17 = .ok (.iconst 0, 1) := dk_i kdJ0_isLatin1_aae02_0 7 rfl
theorem dJ0_isLatin1_aae02_18 : decode cJ0_isLatin1_aae02 18 = .ok (.ireturn, 1) := dk_i kdJ0_isLatin1_aae02_0 8 rfl
def ldJ0_checkIndex_df160_0 : List (Nat × ClassFile.Instr × Nat) := [(0, .iload_n 0, 1), (1, .iload_n 1, 1), (2, .getstatic 1053, 3), (5, .invokestatic 1059, 3), (8, .pop, 1), (9, .return_, 1)]
theorem kdJ0_checkIndex_df160_0 : dk cJ0_checkIndex_df160 ldJ0_checkIndex_df160_0 = true := by decide +kernel
theorem dJ0_checkIndex_df160_0 : decode cJ0_checkIndex_df160 0 = .ok (.iload_n 0, 1) := dk_i kdJ0_checkIndex_df160_0 0 rfl
theorem dJ0_checkIndex_df160_1 : decode cJ0_checkIndex_df160 1 = .ok (.iload_n 1, 1) := dk_i kdJ0_checkIndex_df160_0 1 rfl
theorem dJ0_checkIndex_df160_2 : decode cJ0_checkIndex_df160 2 = .ok (.getstatic 1053, 3) := dk_i kdJ0_checkIndex_df160_0 2 rfl
theorem dJ0_checkIndex_df160_5 : decode cJ0_checkIndex_df160 5 = .ok (.invokestatic 1059, 3) := dk_i kdJ0_checkIndex_df160_0 3 rfl
theorem dJ0_checkIndex_df160_8 : decode cJ0_checkIndex_df160 8 = .ok (.pop, 1) := dk_i kdJ0_checkIndex_df160_0 4 rfl
theorem dJ0_checkIndex_df160_9 : decode cJ0_checkIndex_df160 9 = .ok (.return_, 1) := dk_i kdJ0_checkIndex_df160_0 5 rfl
end
section
def ldJ1_charAt_3b067_0 : List (Nat × ClassFile.Instr × Nat) := [(0, .iload_n 1, 1), (1, .aload_n 0, 1), (2, .arraylength, 1), (3, .invokestatic 9, 3), (6, .aload_n 0, 1), (7, .iload_n 1, 1), (8, .baload, 1), (9, .sipush 255, 3), (12, .iand, 1), (13, .i2c, 1), (14, .ireturn, 1)]
theorem kdJ1_charAt_3b067_0 : dk cJ1_charAt_3b067 ldJ1_charAt_3b067_0 = true := by decide +kernel
theorem dJ1_charAt_3b067_0 : decode cJ1_charAt_3b067 0 = .ok (.iload_n 1, 1) := dk_i kdJ1_charAt_3b067_0 0 rfl
theorem dJ1_charAt_3b067_1 : decode cJ1_charAt_3b067 1 = .ok (.aload_n 0, 1) := dk_i kdJ1_charAt_3b067_0 1 rfl
theorem dJ1_charAt_3b067_2 : decode cJ1_charAt_3b067 2 = .ok (.arraylength, 1) := dk_i kdJ1_charAt_3b067_0 2 rfl
theorem dJ1_charAt_3b067_3 : decode cJ1_charAt_3b067 3 = .ok (.invokestatic 9, 3) := dk_i kdJ1_charAt_3b067_0 3 rfl
theorem dJ1_charAt_3b067_6 : decode cJ1_charAt_3b067 6 = .ok (.aload_n 0, 1) := dk_i kdJ1_charAt_3b067_0 4 rfl
theorem dJ1_charAt_3b067_7 : decode cJ1_charAt_3b067 7 = .ok (.iload_n 1, 1) := dk_i kdJ1_charAt_3b067_0 5 rfl
theorem dJ1_charAt_3b067_8 : decode cJ1_charAt_3b067 8 = .ok (.baload, 1) := dk_i kdJ1_charAt_3b067_0 6 rfl
theorem dJ1_charAt_3b067_9 : decode cJ1_charAt_3b067 9 = .ok (.sipush 255, 3) := dk_i kdJ1_charAt_3b067_0 7 rfl
theorem dJ1_charAt_3b067_12 : decode cJ1_charAt_3b067 12 = .ok (.iand, 1) := dk_i kdJ1_charAt_3b067_0 8 rfl
theorem dJ1_charAt_3b067_13 : decode cJ1_charAt_3b067 13 = .ok (.i2c, 1) := dk_i kdJ1_charAt_3b067_0 9 rfl
theorem dJ1_charAt_3b067_14 : decode cJ1_charAt_3b067 14 = .ok (.ireturn, 1) := dk_i kdJ1_charAt_3b067_0 10 rfl
end
section
def ldJ2_getChar_3b067_0 : List (Nat × ClassFile.Instr × Nat) := [(0, .getstatic 44, 3), (3, .ifCond .ne 25, 3), (6, .iload_n 1, 1), (7, .ifCond .lt 11, 3), (10, .iload_n 1, 1), (11, .aload_n 0, 1), (12, .invokestatic 48, 3), (15, .if_icmp .lt 13, 3), (18, .new 52, 3), (21, .dup, 1), (22, .ldc 54, 2), (24, .invokespecial 56, 3), (27, .athrow, 1), (28, .iload_n 1, 1), (29, .iconst 1, 1), (30, .ishl, 1), (31, .istore_n 1, 1), (32, .aload_n 0, 1), (33, .iload_n 1, 1), (34, .iinc 1 1, 3), (37, .baload, 1), (38, .sipush 255, 3), (41, .iand, 1), (42, .getstatic 59, 3), (45, .ishl, 1), (46, .aload_n 0, 1), (47, .iload_n 1, 1), (48, .baload, 1), (49, .sipush 255, 3), (52, .iand, 1), (53, .getstatic 63, 3), (56, .ishl, 1), (57, .ior, 1), (58, .i2c, 1), (59, .ireturn, 1)]
theorem kdJ2_getChar_3b067_0 : dk cJ2_getChar_3b067 ldJ2_getChar_3b067_0 = true := by decide +kernel
theorem dJ2_getChar_3b067_0 : decode cJ2_getChar_3b067 0 = .ok (.getstatic 44, 3) := dk_i kdJ2_getChar_3b067_0 0 rfl
theorem dJ2_getChar_3b067_3 : decode cJ2_getChar_3b067 3 = .ok (.ifCond .ne 25, 3) := dk_i kdJ2_getChar_3b067_0 1 rfl
theorem dJ2_getChar_3b067_6 : decode cJ2_getChar_3b067 6 = .ok (.iload_n 1, 1) := dk_i kdJ2_getChar_3b067_0 2 rfl
theorem dJ2_getChar_3b067_7 : decode cJ2_getChar_3b067 7 = .ok (.ifCond .lt 11, 3) := dk_i kdJ2_getChar_3b067_0 3 rfl
theorem dJ2_getChar_3b067_10 : decode cJ2_getChar_3b067 10 = .ok (.iload_n 1, 1) := dk_i kdJ2_getChar_3b067_0 4 rfl
theorem dJ2_getChar_3b067_11 : decode cJ2_getChar_3b067 11 = .ok (.aload_n 0, 1) := dk_i kdJ2_getChar_3b067_0 5 rfl
theorem dJ2_getChar_3b067_12 : decode cJ2_getChar_3b067 12 = .ok (.invokestatic 48, 3) := dk_i kdJ2_getChar_3b067_0 6 rfl
theorem dJ2_getChar_3b067_15 : decode cJ2_getChar_3b067 15 = .ok (.if_icmp .lt 13, 3) := dk_i kdJ2_getChar_3b067_0 7 rfl
theorem dJ2_getChar_3b067_18 : decode cJ2_getChar_3b067 18 = .ok (.new 52, 3) := dk_i kdJ2_getChar_3b067_0 8 rfl
theorem dJ2_getChar_3b067_21 : decode cJ2_getChar_3b067 21 = .ok (.dup, 1) := dk_i kdJ2_getChar_3b067_0 9 rfl
theorem dJ2_getChar_3b067_22 : decode cJ2_getChar_3b067 22 = .ok (.ldc 54, 2) := dk_i kdJ2_getChar_3b067_0 10 rfl
theorem dJ2_getChar_3b067_24 : decode cJ2_getChar_3b067 24 = .ok (.invokespecial 56, 3) := dk_i kdJ2_getChar_3b067_0 11 rfl
theorem dJ2_getChar_3b067_27 : decode cJ2_getChar_3b067 27 = .ok (.athrow, 1) := dk_i kdJ2_getChar_3b067_0 12 rfl
theorem dJ2_getChar_3b067_28 : decode cJ2_getChar_3b067 28 = .ok (.iload_n 1, 1) := dk_i kdJ2_getChar_3b067_0 13 rfl
theorem dJ2_getChar_3b067_29 : decode cJ2_getChar_3b067 29 = .ok (.iconst 1, 1) := dk_i kdJ2_getChar_3b067_0 14 rfl
theorem dJ2_getChar_3b067_30 : decode cJ2_getChar_3b067 30 = .ok (.ishl, 1) := dk_i kdJ2_getChar_3b067_0 15 rfl
theorem dJ2_getChar_3b067_31 : decode cJ2_getChar_3b067 31 = .ok (.istore_n 1, 1) := dk_i kdJ2_getChar_3b067_0 16 rfl
theorem dJ2_getChar_3b067_32 : decode cJ2_getChar_3b067 32 = .ok (.aload_n 0, 1) := dk_i kdJ2_getChar_3b067_0 17 rfl
theorem dJ2_getChar_3b067_33 : decode cJ2_getChar_3b067 33 = .ok (.iload_n 1, 1) := dk_i kdJ2_getChar_3b067_0 18 rfl
theorem dJ2_getChar_3b067_34 : decode cJ2_getChar_3b067 34 = .ok (.iinc 1 1, 3) := dk_i kdJ2_getChar_3b067_0 19 rfl
theorem dJ2_getChar_3b067_37 : decode cJ2_getChar_3b067 37 = .ok (.baload, 1) := dk_i kdJ2_getChar_3b067_0 20 rfl
theorem dJ2_getChar_3b067_38 : decode cJ2_getChar_3b067 38 = .ok (.sipush 255, 3) := dk_i kdJ2_getChar_3b067_0 21 rfl
theorem dJ2_getChar_3b067_41 : decode cJ2_getChar_3b067 41 = .ok (.iand, 1) := dk_i kdJ2_getChar_3b067_0 22 rfl
theorem dJ2_getChar_3b067_42 : decode cJ2_getChar_3b067 42 = .ok (.getstatic 59, 3) := dk_i kdJ2_getChar_3b067_0 23 rfl
theorem dJ2_getChar_3b067_45 : decode cJ2_getChar_3b067 45 = .ok (.ishl, 1) := dk_i kdJ2_getChar_3b067_0 24 rfl
theorem dJ2_getChar_3b067_46 : decode cJ2_getChar_3b067 46 = .ok (.aload_n 0, 1) := dk_i kdJ2_getChar_3b067_0 25 rfl
theorem dJ2_getChar_3b067_47 : decode cJ2_getChar_3b067 47 = .ok (.iload_n 1, 1) := dk_i kdJ2_getChar_3b067_0 26 rfl
theorem dJ2_getChar_3b067_48 : decode cJ2_getChar_3b067 48 = .ok (.baload, 1) := dk_i kdJ2_getChar_3b067_0 27 rfl
theorem dJ2_getChar_3b067_49 : decode cJ2_getChar_3b067 49 = .ok (.sipush 255, 3) := dk_i kdJ2_getChar_3b067_0 28 rfl
theorem dJ2_getChar_3b067_52 : decode cJ2_getChar_3b067 52 = .ok (.iand, 1) := dk_i kdJ2_getChar_3b067_0 29 rfl
theorem dJ2_getChar_3b067_53 : decode cJ2_getChar_3b067 53 = .ok (.getstatic 63, 3) := dk_i kdJ2_getChar_3b067_0 30 rfl
theorem dJ2_getChar_3b067_56 : decode cJ2_getChar_3b067 56 = .ok (.ishl, 1) := dk_i kdJ2_getChar_3b067_0 31 rfl
theorem dJ2_getChar_3b067_57 : decode cJ2_getChar_3b067 57 = .ok (.ior, 1) := dk_i kdJ2_getChar_3b067_0 32 rfl
theorem dJ2_getChar_3b067_58 : decode cJ2_getChar_3b067 58 = .ok (.i2c, 1) := dk_i kdJ2_getChar_3b067_0 33 rfl
theorem dJ2_getChar_3b067_59 : decode cJ2_getChar_3b067 59 = .ok (.ireturn, 1) := dk_i kdJ2_getChar_3b067_0 34 rfl
def ldJ2_length_9d52b_0 : List (Nat × ClassFile.Instr × Nat) := [(0, .aload_n 0, 1), (1, .arraylength, 1), (2, .iconst 1, 1), (3, .ishr, 1), (4, .ireturn, 1)]
theorem kdJ2_length_9d52b_0 : dk cJ2_length_9d52b ldJ2_length_9d52b_0 = true := by decide +kernel
theorem dJ2_length_9d52b_0 : decode cJ2_length_9d52b 0 = .ok (.aload_n 0, 1) := dk_i kdJ2_length_9d52b_0 0 rfl
theorem dJ2_length_9d52b_1 : decode cJ2_length_9d52b 1 = .ok (.arraylength, 1) := dk_i kdJ2_length_9d52b_0 1 rfl
theorem dJ2_length_9d52b_2 : decode cJ2_length_9d52b 2 = .ok (.iconst 1, 1) := dk_i kdJ2_length_9d52b_0 2 rfl
theorem dJ2_length_9d52b_3 : decode cJ2_length_9d52b 3 = .ok (.ishr, 1) := dk_i kdJ2_length_9d52b_0 3 rfl
theorem dJ2_length_9d52b_4 : decode cJ2_length_9d52b 4 = .ok (.ireturn, 1) := dk_i kdJ2_length_9d52b_0 4 rfl
def ldJ2_charAt_3b067_0 : List (Nat × ClassFile.Instr × Nat) := [(0, .iload_n 1, 1), (1, .aload_n 0, 1), (2, .invokestatic 67, 3), (5, .aload_n 0, 1), (6, .iload_n 1, 1), (7, .invokestatic 71, 3), (10, .ireturn, 1)]
theorem kdJ2_charAt_3b067_0 : dk cJ2_charAt_3b067 ldJ2_charAt_3b067_0 = true := by decide +kernel
theorem dJ2_charAt_3b067_0 : decode cJ2_charAt_3b067 0 = .ok (.iload_n 1, 1) := dk_i kdJ2_charAt_3b067_0 0 rfl
theorem dJ2_charAt_3b067_1 : decode cJ2_charAt_3b067 1 = .ok (.aload_n 0, 1) := dk_i kdJ2_charAt_3b067_0 1 rfl
theorem dJ2_charAt_3b067_2 : decode cJ2_charAt_3b067 2 = .ok (.invokestatic 67, 3) := dk_i kdJ2_charAt_3b067_0 2 rfl
theorem dJ2_charAt_3b067_5 : decode cJ2_charAt_3b067 5 = .ok (.aload_n 0, 1) := dk_i kdJ2_charAt_3b067_0 3 rfl
theorem dJ2_charAt_3b067_6 : decode cJ2_charAt_3b067 6 = .ok (.iload_n 1, 1) := dk_i kdJ2_charAt_3b067_0 4 rfl
theorem dJ2_charAt_3b067_7 : decode cJ2_charAt_3b067 7 = .ok (.invokestatic 71, 3) := dk_i kdJ2_charAt_3b067_0 5 rfl
theorem dJ2_charAt_3b067_10 : decode cJ2_charAt_3b067 10 = .ok (.ireturn, 1) := dk_i kdJ2_charAt_3b067_0 6 rfl
def ldJ2_checkIndex_2214a_0 : List (Nat × ClassFile.Instr × Nat) := [(0, .iload_n 0, 1), (1, .aload_n 1, 1), (2, .invokestatic 48, 3), (5, .invokestatic 414, 3), (8, .return_, 1)]
theorem kdJ2_checkIndex_2214a_0 : dk cJ2_checkIndex_2214a ldJ2_checkIndex_2214a_0 = true := by decide +kernel
theorem dJ2_checkIndex_2214a_0 : decode cJ2_checkIndex_2214a 0 = .ok (.iload_n 0, 1) := dk_i kdJ2_checkIndex_2214a_0 0 rfl
theorem dJ2_checkIndex_2214a_1 : decode cJ2_checkIndex_2214a 1 = .ok (.aload_n 1, 1) := dk_i kdJ2_checkIndex_2214a_0 1 rfl
theorem dJ2_checkIndex_2214a_2 : decode cJ2_checkIndex_2214a 2 = .ok (.invokestatic 48, 3) := dk_i kdJ2_checkIndex_2214a_0 2 rfl
theorem dJ2_checkIndex_2214a_5 : decode cJ2_checkIndex_2214a 5 = .ok (.invokestatic 414, 3) := dk_i kdJ2_checkIndex_2214a_0 3 rfl
theorem dJ2_checkIndex_2214a_8 : decode cJ2_checkIndex_2214a 8 = .ok (.return_, 1) := dk_i kdJ2_checkIndex_2214a_0 4 rfl
end
section
def ldJ3_checkIndex_8e157_0 : List (Nat × ClassFile.Instr × Nat) := [(0, .iload_n 0, 1), (1, .ifCond .lt 8, 3), (4, .iload_n 0, 1), (5, .iload_n 1, 1), (6, .if_icmp .lt 10, 3), (9, .aload_n 2, 1), (10, .iload_n 0, 1), (11, .iload_n 1, 1), (12, .invokestatic 95, 3), (15, .athrow, 1), (16, .iload_n 0, 1), (17, .ireturn, 1)]
theorem kdJ3_checkIndex_8e157_0 : dk cJ3_checkIndex_8e157 ldJ3_checkIndex_8e157_0 = true := by decide +kernel
theorem dJ3_checkIndex_8e157_0 : decode cJ3_checkIndex_8e157 0 = .ok (.iload_n 0, 1) := dk_i kdJ3_checkIndex_8e157_0 0 rfl
theorem dJ3_checkIndex_8e157_1 : decode cJ3_checkIndex_8e157 1 = .ok (.ifCond .lt 8, 3) := dk_i kdJ3_checkIndex_8e157_0 1 rfl
theorem dJ3_checkIndex_8e157_4 : decode cJ3_checkIndex_8e157 4 = .ok (.iload_n 0, 1) := dk_i kdJ3_checkIndex_8e157_0 2 rfl
theorem dJ3_checkIndex_8e157_5 : decode cJ3_checkIndex_8e157 5 = .ok (.iload_n 1, 1) := dk_i kdJ3_checkIndex_8e157_0 3 rfl
theorem dJ3_checkIndex_8e157_6 : decode cJ3_checkIndex_8e157 6 = .ok (.if_icmp .lt 10, 3) := dk_i kdJ3_checkIndex_8e157_0 4 rfl
theorem dJ3_checkIndex_8e157_9 : decode cJ3_checkIndex_8e157 9 = .ok (.aload_n 2, 1) := dk_i kdJ3_checkIndex_8e157_0 5 rfl
theorem dJ3_checkIndex_8e157_10 : decode cJ3_checkIndex_8e157 10 = .ok (.iload_n 0, 1) := dk_i kdJ3_checkIndex_8e157_0 6 rfl
theorem dJ3_checkIndex_8e157_11 : decode cJ3_checkIndex_8e157 11 = .ok (.iload_n 1, 1) := dk_i kdJ3_checkIndex_8e157_0 7 rfl
theorem dJ3_checkIndex_8e157_12 : decode cJ3_checkIndex_8e157 12 = .ok (.invokestatic 95, 3) := dk_i kdJ3_checkIndex_8e157_0 8 rfl
theorem dJ3_checkIndex_8e157_15 : decode cJ3_checkIndex_8e157 15 = .ok (.athrow, 1) := dk_i kdJ3_checkIndex_8e157_0 9 rfl
theorem dJ3_checkIndex_8e157_16 : decode cJ3_checkIndex_8e157 16 = .ok (.iload_n 0, 1) := dk_i kdJ3_checkIndex_8e157_0 10 rfl
theorem dJ3_checkIndex_8e157_17 : decode cJ3_checkIndex_8e157 17 = .ok (.ireturn, 1) := dk_i kdJ3_checkIndex_8e157_0 11 rfl
end
section
def ldJ9_floorDiv_7cf53_0 : List (Nat × ClassFile.Instr × Nat) := [(0, .iload_n 0, 1), (1, .iload_n 1, 1), (2, .idiv, 1), (3, .istore_n 2, 1), (4, .iload_n 0, 1), (5, .iload_n 1, 1), (6, .ixor, 1), (7, .ifCond .ge 14, 3), (10, .iload_n 2, 1), (11, .iload_n 1, 1), (12, .imul, 1), (13, .iload_n 0, 1), (14, .if_icmp .eq 7, 3), (17, .iload_n 2, 1), (18, .iconst 1, 1), (19, .isub, 1), (20, .ireturn, 1), (21, .iload_n 2, 1), (22, .ireturn, 1)]
theorem kdJ9_floorDiv_7cf53_0 : dk cJ9_floorDiv_7cf53 ldJ9_floorDiv_7cf53_0 = true := by decide +kernel
theorem dJ9_floorDiv_7cf53_0 : decode cJ9_floorDiv_7cf53 0 = .ok (.iload_n 0, 1) := dk_i kdJ9_floorDiv_7cf53_0 0 rfl
theorem dJ9_floorDiv_7cf53_1 : decode cJ9_floorDiv_7cf53 1 = .ok (.iload_n 1, 1) := dk_i kdJ9_floorDiv_7cf53_0 1 rfl
theorem dJ9_floorDiv_7cf53_2 : decode cJ9_floorDiv_7cf53 2 = .ok (.idiv, 1) := dk_i kdJ9_floorDiv_7cf53_0 2 rfl
theorem dJ9_floorDiv_7cf53_3 : decode cJ9_floorDiv_7cf53 3 = .ok (.istore_n 2, 1) := dk_i kdJ9_floorDiv_7cf53_0 3 rfl
theorem dJ9_floorDiv_7cf53_4 : decode cJ9_floorDiv_7cf53 4 = .ok (.iload_n 0, 1) := dk_i kdJ9_floorDiv_7cf53_0 4 rfl
theorem dJ9_floorDiv_7cf53_5 : decode cJ9_floorDiv_7cf53 5 = .ok (.iload_n 1, 1) := dk_i kdJ9_floorDiv_7cf53_0 5 rfl
theorem dJ9_floorDiv_7cf53_6 : decode cJ9_floorDiv_7cf53 6 = .ok (.ixor, 1) := dk_i kdJ9_floorDiv_7cf53_0 6 rfl
theorem dJ9_floorDiv_7cf53_7 : decode cJ9_floorDiv_7cf53 7 = .ok (.ifCond .ge 14, 3) := dk_i kdJ9_floorDiv_7cf53_0 7 rfl
theorem dJ9_floorDiv_7cf53_10 : decode cJ9_floorDiv_7cf53 10 = .ok (.iload_n 2, 1) := dk_i kdJ9_floorDiv_7cf53_0 8 rfl
theorem dJ9_floorDiv_7cf53_11 : decode cJ9_floorDiv_7cf53 11 = .ok (.iload_n 1, 1) := dk_i kdJ9_floorDiv_7cf53_0 9 rfl
theorem dJ9_floorDiv_7cf53_12 : decode cJ9_floorDiv_7cf53 12 = .ok (.imul, 1) := dk_i kdJ9_floorDiv_7cf53_0 10 rfl
theorem dJ9_floorDiv_7cf53_13 : decode cJ9_floorDiv_7cf53 13 = .ok (.iload_n 0, 1) := dk_i kdJ9_floorDiv_7cf53_0 11 rfl
theorem dJ9_floorDiv_7cf53_14 : decode cJ9_floorDiv_7cf53 14 = .ok (.if_icmp .eq 7, 3) := dk_i kdJ9_floorDiv_7cf53_0 12 rfl
theorem dJ9_floorDiv_7cf53_17 : decode cJ9_floorDiv_7cf53 17 = .ok (.iload_n 2, 1) := dk_i kdJ9_floorDiv_7cf53_0 13 rfl
theorem dJ9_floorDiv_7cf53_18 : decode cJ9_floorDiv_7cf53 18 = .ok (.iconst 1, 1) := dk_i kdJ9_floorDiv_7cf53_0 14 rfl
theorem dJ9_floorDiv_7cf53_19 : decode cJ9_floorDiv_7cf53 19 = .ok (.isub, 1) := dk_i kdJ9_floorDiv_7cf53_0 15 rfl
theorem dJ9_floorDiv_7cf53_20 : decode cJ9_floorDiv_7cf53 20 = .ok (.ireturn, 1) := dk_i kdJ9_floorDiv_7cf53_0 16 rfl
theorem dJ9_floorDiv_7cf53_21 : decode cJ9_floorDiv_7cf53 21 = .ok (.iload_n 2, 1) := dk_i kdJ9_floorDiv_7cf53_0 17 rfl
theorem dJ9_floorDiv_7cf53_22 : decode cJ9_floorDiv_7cf53 22 = .ok (.ireturn, 1) := dk_i kdJ9_floorDiv_7cf53_0 18 rfl
def ldJ9_floorMod_7cf53_0 : List (Nat × ClassFile.Instr × Nat) := [(0, .iload_n 0, 1), (1, .iload_n 1, 1), (2, .irem, 1), (3, .istore_n 2, 1), (4, .iload_n 0, 1), (5, .iload_n 1, 1), (6, .ixor, 1), (7, .ifCond .ge 11, 3), (10, .iload_n 2, 1), (11, .ifCond .eq 7, 3), (14, .iload_n 2, 1), (15, .iload_n 1, 1), (16, .iadd, 1), (17, .ireturn, 1), (18, .iload_n 2, 1), (19, .ireturn, 1)]
theorem kdJ9_floorMod_7cf53_0 : dk cJ9_floorMod_7cf53 ldJ9_floorMod_7cf53_0 = true := by decide +kernel
theorem dJ9_floorMod_7cf53_0 : decode cJ9_floorMod_7cf53 0 = .ok (.iload_n 0, 1) := dk_i kdJ9_floorMod_7cf53_0 0 rfl
theorem dJ9_floorMod_7cf53_1 : decode cJ9_floorMod_7cf53 1 = .ok (.iload_n 1, 1) := dk_i kdJ9_floorMod_7cf53_0 1 rfl
theorem dJ9_floorMod_7cf53_2 : decode cJ9_floorMod_7cf53 2 = .ok (.irem, 1) := dk_i kdJ9_floorMod_7cf53_0 2 rfl
theorem dJ9_floorMod_7cf53_3 : decode cJ9_floorMod_7cf53 3 = .ok (.istore_n 2, 1) := dk_i kdJ9_floorMod_7cf53_0 3 rfl
theorem dJ9_floorMod_7cf53_4 : decode cJ9_floorMod_7cf53 4 = .ok (.iload_n 0, 1) := dk_i kdJ9_floorMod_7cf53_0 4 rfl
theorem dJ9_floorMod_7cf53_5 : decode cJ9_floorMod_7cf53 5 = .ok (.iload_n 1, 1) := dk_i kdJ9_floorMod_7cf53_0 5 rfl
theorem dJ9_floorMod_7cf53_6 : decode cJ9_floorMod_7cf53 6 = .ok (.ixor, 1) := dk_i kdJ9_floorMod_7cf53_0 6 rfl
theorem dJ9_floorMod_7cf53_7 : decode cJ9_floorMod_7cf53 7 = .ok (.ifCond .ge 11, 3) := dk_i kdJ9_floorMod_7cf53_0 7 rfl
theorem dJ9_floorMod_7cf53_10 : decode cJ9_floorMod_7cf53 10 = .ok (.iload_n 2, 1) := dk_i kdJ9_floorMod_7cf53_0 8 rfl
theorem dJ9_floorMod_7cf53_11 : decode cJ9_floorMod_7cf53 11 = .ok (.ifCond .eq 7, 3) := dk_i kdJ9_floorMod_7cf53_0 9 rfl
theorem dJ9_floorMod_7cf53_14 : decode cJ9_floorMod_7cf53 14 = .ok (.iload_n 2, 1) := dk_i kdJ9_floorMod_7cf53_0 10 rfl
theorem dJ9_floorMod_7cf53_15 : decode cJ9_floorMod_7cf53 15 = .ok (.iload_n 1, 1) := dk_i kdJ9_floorMod_7cf53_0 11 rfl
theorem dJ9_floorMod_7cf53_16 : decode cJ9_floorMod_7cf53 16 = .ok (.iadd, 1) := dk_i kdJ9_floorMod_7cf53_0 12 rfl
theorem dJ9_floorMod_7cf53_17 : decode cJ9_floorMod_7cf53 17 = .ok (.ireturn, 1) := dk_i kdJ9_floorMod_7cf53_0 13 rfl
theorem dJ9_floorMod_7cf53_18 : decode cJ9_floorMod_7cf53 18 = .ok (.iload_n 2, 1) := dk_i kdJ9_floorMod_7cf53_0 14 rfl
theorem dJ9_floorMod_7cf53_19 : decode cJ9_floorMod_7cf53 19 = .ok (.ireturn, 1) := dk_i kdJ9_floorMod_7cf53_0 15 rfl
def ldJ9_max_7cf53_0 : List (Nat × ClassFile.Instr × Nat) := [(0, .iload_n 0, 1), (1, .iload_n 1, 1), (2, .if_icmp .lt 7, 3), (5, .iload_n 0, 1), (6, .goto 4, 3), (9, .iload_n 1, 1), (10, .ireturn, 1)]
theorem kdJ9_max_7cf53_0 : dk cJ9_max_7cf53 ldJ9_max_7cf53_0 = true := by decide +kernel
theorem dJ9_max_7cf53_0 : decode cJ9_max_7cf53 0 = .ok (.iload_n 0, 1) := dk_i kdJ9_max_7cf53_0 0 rfl
theorem dJ9_max_7cf53_1 : decode cJ9_max_7cf53 1 = .ok (.iload_n 1, 1) := dk_i kdJ9_max_7cf53_0 1 rfl
theorem dJ9_max_7cf53_2 : decode cJ9_max_7cf53 2 = .ok (.if_icmp .lt 7, 3) := dk_i kdJ9_max_7cf53_0 2 rfl
theorem dJ9_max_7cf53_5 : decode cJ9_max_7cf53 5 = .ok (.iload_n 0, 1) := dk_i kdJ9_max_7cf53_0 3 rfl
theorem dJ9_max_7cf53_6 : decode cJ9_max_7cf53 6 = .ok (.goto 4, 3) := dk_i kdJ9_max_7cf53_0 4 rfl
theorem dJ9_max_7cf53_9 : decode cJ9_max_7cf53 9 = .ok (.iload_n 1, 1) := dk_i kdJ9_max_7cf53_0 5 rfl
theorem dJ9_max_7cf53_10 : decode cJ9_max_7cf53 10 = .ok (.ireturn, 1) := dk_i kdJ9_max_7cf53_0 6 rfl
def ldJ9_max_f86c9_0 : List (Nat × ClassFile.Instr × Nat) := [(0, .lload_n 0, 1), (1, .lload_n 2, 1), (2, .lcmp, 1), (3, .ifCond .lt 7, 3), (6, .lload_n 0, 1), (7, .goto 4, 3), (10, .lload_n 2, 1), (11, .lreturn, 1)]
theorem kdJ9_max_f86c9_0 : dk cJ9_max_f86c9 ldJ9_max_f86c9_0 = true := by decide +kernel
theorem dJ9_max_f86c9_0 : decode cJ9_max_f86c9 0 = .ok (.lload_n 0, 1) := dk_i kdJ9_max_f86c9_0 0 rfl
theorem dJ9_max_f86c9_1 : decode cJ9_max_f86c9 1 = .ok (.lload_n 2, 1) := dk_i kdJ9_max_f86c9_0 1 rfl
theorem dJ9_max_f86c9_2 : decode cJ9_max_f86c9 2 = .ok (.lcmp, 1) := dk_i kdJ9_max_f86c9_0 2 rfl
theorem dJ9_max_f86c9_3 : decode cJ9_max_f86c9 3 = .ok (.ifCond .lt 7, 3) := dk_i kdJ9_max_f86c9_0 3 rfl
theorem dJ9_max_f86c9_6 : decode cJ9_max_f86c9 6 = .ok (.lload_n 0, 1) := dk_i kdJ9_max_f86c9_0 4 rfl
theorem dJ9_max_f86c9_7 : decode cJ9_max_f86c9 7 = .ok (.goto 4, 3) := dk_i kdJ9_max_f86c9_0 5 rfl
theorem dJ9_max_f86c9_10 : decode cJ9_max_f86c9 10 = .ok (.lload_n 2, 1) := dk_i kdJ9_max_f86c9_0 6 rfl
theorem dJ9_max_f86c9_11 : decode cJ9_max_f86c9 11 = .ok (.lreturn, 1) := dk_i kdJ9_max_f86c9_0 7 rfl
def ldJ9_min_7cf53_0 : List (Nat × ClassFile.Instr × Nat) := [(0, .iload_n 0, 1), (1, .iload_n 1, 1), (2, .if_icmp .gt 7, 3), (5, .iload_n 0, 1), (6, .goto 4, 3), (9, .iload_n 1, 1), (10, .ireturn, 1)]
theorem kdJ9_min_7cf53_0 : dk cJ9_min_7cf53 ldJ9_min_7cf53_0 = true := by decide +kernel
theorem dJ9_min_7cf53_0 : decode cJ9_min_7cf53 0 = .ok (.iload_n 0, 1) := dk_i kdJ9_min_7cf53_0 0 rfl
theorem dJ9_min_7cf53_1 : decode cJ9_min_7cf53 1 = .ok (.iload_n 1, 1) := dk_i kdJ9_min_7cf53_0 1 rfl
theorem dJ9_min_7cf53_2 : decode cJ9_min_7cf53 2 = .ok (.if_icmp .gt 7, 3) := dk_i kdJ9_min_7cf53_0 2 rfl
theorem dJ9_min_7cf53_5 : decode cJ9_min_7cf53 5 = .ok (.iload_n 0, 1) := dk_i kdJ9_min_7cf53_0 3 rfl
theorem dJ9_min_7cf53_6 : decode cJ9_min_7cf53 6 = .ok (.goto 4, 3) := dk_i kdJ9_min_7cf53_0 4 rfl
theorem dJ9_min_7cf53_9 : decode cJ9_min_7cf53 9 = .ok (.iload_n 1, 1) := dk_i kdJ9_min_7cf53_0 5 rfl
theorem dJ9_min_7cf53_10 : decode cJ9_min_7cf53 10 = .ok (.ireturn, 1) := dk_i kdJ9_min_7cf53_0 6 rfl
def ldJ9_min_f86c9_0 : List (Nat × ClassFile.Instr × Nat) := [(0, .lload_n 0, 1), (1, .lload_n 2, 1), (2, .lcmp, 1), (3, .ifCond .gt 7, 3), (6, .lload_n 0, 1), (7, .goto 4, 3), (10, .lload_n 2, 1), (11, .lreturn, 1)]
theorem kdJ9_min_f86c9_0 : dk cJ9_min_f86c9 ldJ9_min_f86c9_0 = true := by decide +kernel
theorem dJ9_min_f86c9_0 : decode cJ9_min_f86c9 0 = .ok (.lload_n 0, 1) := dk_i kdJ9_min_f86c9_0 0 rfl
theorem dJ9_min_f86c9_1 : decode cJ9_min_f86c9 1 = .ok (.lload_n 2, 1) := dk_i kdJ9_min_f86c9_0 1 rfl
theorem dJ9_min_f86c9_2 : decode cJ9_min_f86c9 2 = .ok (.lcmp, 1) := dk_i kdJ9_min_f86c9_0 2 rfl
theorem dJ9_min_f86c9_3 : decode cJ9_min_f86c9 3 = .ok (.ifCond .gt 7, 3) := dk_i kdJ9_min_f86c9_0 3 rfl
theorem dJ9_min_f86c9_6 : decode cJ9_min_f86c9 6 = .ok (.lload_n 0, 1) := dk_i kdJ9_min_f86c9_0 4 rfl
theorem dJ9_min_f86c9_7 : decode cJ9_min_f86c9 7 = .ok (.goto 4, 3) := dk_i kdJ9_min_f86c9_0 5 rfl
theorem dJ9_min_f86c9_10 : decode cJ9_min_f86c9 10 = .ok (.lload_n 2, 1) := dk_i kdJ9_min_f86c9_0 6 rfl
theorem dJ9_min_f86c9_11 : decode cJ9_min_f86c9 11 = .ok (.lreturn, 1) := dk_i kdJ9_min_f86c9_0 7 rfl
end
