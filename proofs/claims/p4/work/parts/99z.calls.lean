/-! THE LAW, CALL AFTER CALL -/
theorem stC {n0 : Nat} {f g : Option (Int32 × Mem)} (h : Cal n0 f g) : ∃ Z : Mem × Mem, (f.bind fun zx => g.bind fun zy => if zx.1 = zy.1 then some (zx.2, zy.2) else none) = some Z ∧ R n0 Z.1 Z.2 := by
  obtain ⟨r, MX', MY', h1, h2, h3⟩ := h
  exact ⟨(MX', MY'), eq_b h1 (eq_b h2 (eq_t rfl rfl)), h3⟩
theorem stN {n0 : Nat} {f g : Option (Int32 × Mem)} (h : CalN n0 f g) : ∃ Z : Mem × Mem, (f.bind fun zx => g.bind fun zy => some (zx.2, zy.2)) = some Z ∧ R n0 Z.1 Z.2 := by
  obtain ⟨r, r', MX', MY', h1, h2, h3⟩ := h
  exact ⟨(MX', MY'), eq_b h1 (eq_b h2 rfl), h3⟩
theorem stQ {n0 : Nat} {f g : Option (Int64 × Mem)} (h : CalL n0 f g) : ∃ Z : Mem × Mem, (f.bind fun zx => g.bind fun zy => some (zx.2, zy.2)) = some Z ∧ R n0 Z.1 Z.2 := by
  obtain ⟨r, r', MX', MY', h1, h2, h3⟩ := h
  exact ⟨(MX', MY'), eq_b h1 (eq_b h2 rfl), h3⟩
theorem sg0 {n0 : Nat} {a : Nat → Int32} {MX MY : Mem} (hn : 20000 ≤ n0) (h : R n0 MX MY) : ∃ Z, stp0 n0 a MX MY = some Z ∧ R n0 Z.1 Z.2 := by
  have hn1 : 1700 ≤ n0 := by omega
  unfold stp0
  exact stN (cFeed hn1 h).n
theorem sg1 {n0 : Nat} {a : Nat → Int32} {MX MY : Mem} (hn : 20000 ≤ n0) (h : R n0 MX MY) : ∃ Z, stp1 n0 a MX MY = some Z ∧ R n0 Z.1 Z.2 := by
  have hn1 : 1700 ≤ n0 := by omega
  unfold stp1
  exact stN (cEnd h).n
theorem sg2 {n0 : Nat} {a : Nat → Int32} {MX MY : Mem} (hn : 20000 ≤ n0) (h : R n0 MX MY) : ∃ Z, stp2 n0 a MX MY = some Z ∧ R n0 Z.1 Z.2 := by
  have hn1 : 1700 ≤ n0 := by omega
  unfold stp2
  exact stC (cTown hn1 h)
theorem sg3 {n0 : Nat} {a : Nat → Int32} {MX MY : Mem} (hn : 20000 ≤ n0) (h : R n0 MX MY) : ∃ Z, stp3 n0 a MX MY = some Z ∧ R n0 Z.1 Z.2 := by
  have hn1 : 1700 ≤ n0 := by omega
  unfold stp3
  exact stN (cFault h).n
theorem sg4 {n0 : Nat} {a : Nat → Int32} {MX MY : Mem} (hn : 20000 ≤ n0) (h : R n0 MX MY) : ∃ Z, stp4 n0 a MX MY = some Z ∧ R n0 Z.1 Z.2 := by
  have hn1 : 1700 ≤ n0 := by omega
  unfold stp4
  exact stN (cHas hn1 h).n
theorem sg5 {n0 : Nat} {a : Nat → Int32} {MX MY : Mem} (hn : 20000 ≤ n0) (h : R n0 MX MY) : ∃ Z, stp5 n0 a MX MY = some Z ∧ R n0 Z.1 Z.2 := by
  have hn1 : 1700 ≤ n0 := by omega
  unfold stp5
  exact stN (cLetter hn1 h).n
theorem sg6 {n0 : Nat} {a : Nat → Int32} {MX MY : Mem} (hn : 20000 ≤ n0) (h : R n0 MX MY) : ∃ Z, stp6 n0 a MX MY = some Z ∧ R n0 Z.1 Z.2 := by
  have hn1 : 1700 ≤ n0 := by omega
  unfold stp6
  exact stN (cThing h).n
theorem sg7 {n0 : Nat} {a : Nat → Int32} {MX MY : Mem} (hn : 20000 ≤ n0) (h : R n0 MX MY) : ∃ Z, stp7 n0 a MX MY = some Z ∧ R n0 Z.1 Z.2 := by
  have hn1 : 1700 ≤ n0 := by omega
  unfold stp7
  exact stN (cCorner h).n
theorem sg8 {n0 : Nat} {a : Nat → Int32} {MX MY : Mem} (hn : 20000 ≤ n0) (h : R n0 MX MY) : ∃ Z, stp8 n0 a MX MY = some Z ∧ R n0 Z.1 Z.2 := by
  have hn1 : 1700 ≤ n0 := by omega
  unfold stp8
  exact stN (cDoing h).n
theorem sg9 {n0 : Nat} {a : Nat → Int32} {MX MY : Mem} (hn : 20000 ≤ n0) (h : R n0 MX MY) : ∃ Z, stp9 n0 a MX MY = some Z ∧ R n0 Z.1 Z.2 := by
  have hn1 : 1700 ≤ n0 := by omega
  unfold stp9
  exact stN (cLater hn1 h).n
theorem sg10 {n0 : Nat} {a : Nat → Int32} {MX MY : Mem} (hn : 20000 ≤ n0) (h : R n0 MX MY) : ∃ Z, stp10 n0 a MX MY = some Z ∧ R n0 Z.1 Z.2 := by
  have hn1 : 1700 ≤ n0 := by omega
  unfold stp10
  exact stN (cWhen hn1 h).n
theorem sg11 {n0 : Nat} {a : Nat → Int32} {MX MY : Mem} (hn : 20000 ≤ n0) (h : R n0 MX MY) : ∃ Z, stp11 n0 a MX MY = some Z ∧ R n0 Z.1 Z.2 := by
  have hn1 : 1700 ≤ n0 := by omega
  unfold stp11
  exact stN (cAlike hn1 h).n
theorem sg12 {n0 : Nat} {a : Nat → Int32} {MX MY : Mem} (hn : 20000 ≤ n0) (h : R n0 MX MY) : ∃ Z, stp12 n0 a MX MY = some Z ∧ R n0 Z.1 Z.2 := by
  have hn1 : 1700 ≤ n0 := by omega
  unfold stp12
  exact stN (nPlan hn h)
theorem sg13 {n0 : Nat} {a : Nat → Int32} {MX MY : Mem} (hn : 20000 ≤ n0) (h : R n0 MX MY) : ∃ Z, stp13 n0 a MX MY = some Z ∧ R n0 Z.1 Z.2 := by
  have hn1 : 1700 ≤ n0 := by omega
  unfold stp13
  exact stN (cEvening hn1 h).n
theorem sg14 {n0 : Nat} {a : Nat → Int32} {MX MY : Mem} (hn : 20000 ≤ n0) (h : R n0 MX MY) : ∃ Z, stp14 n0 a MX MY = some Z ∧ R n0 Z.1 Z.2 := by
  have hn1 : 1700 ≤ n0 := by omega
  unfold stp14
  exact stQ (nOdds hn1 h)
theorem sg15 {n0 : Nat} {a : Nat → Int32} {MX MY : Mem} (hn : 20000 ≤ n0) (h : R n0 MX MY) : ∃ Z, stp15 n0 a MX MY = some Z ∧ R n0 Z.1 Z.2 := by
  have hn1 : 1700 ≤ n0 := by omega
  unfold stp15
  exact stN (nWay hn1 h)
theorem sg16 {n0 : Nat} {a : Nat → Int32} {MX MY : Mem} (hn : 20000 ≤ n0) (h : R n0 MX MY) : ∃ Z, stp16 n0 a MX MY = some Z ∧ R n0 Z.1 Z.2 := by
  have hn1 : 1700 ≤ n0 := by omega
  unfold stp16
  exact stN (nArrive hn1 h)
theorem sg17 {n0 : Nat} {a : Nat → Int32} {MX MY : Mem} (hn : 20000 ≤ n0) (h : R n0 MX MY) : ∃ Z, stp17 n0 a MX MY = some Z ∧ R n0 Z.1 Z.2 := by
  have hn1 : 1700 ≤ n0 := by omega
  unfold stp17
  exact stN (nEarly hn1 h)
theorem sg18 {n0 : Nat} {a : Nat → Int32} {MX MY : Mem} (hn : 20000 ≤ n0) (h : R n0 MX MY) : ∃ Z, stp18 n0 a MX MY = some Z ∧ R n0 Z.1 Z.2 := by
  have hn1 : 1700 ≤ n0 := by omega
  unfold stp18
  exact stN (cSee hn1 h).n
theorem sg19 {n0 : Nat} {a : Nat → Int32} {MX MY : Mem} (hn : 20000 ≤ n0) (h : R n0 MX MY) : ∃ Z, stp19 n0 a MX MY = some Z ∧ R n0 Z.1 Z.2 := by
  have hn1 : 1700 ≤ n0 := by omega
  unfold stp19
  exact stN (cHeld hn1 h).n
theorem sg20 {n0 : Nat} {a : Nat → Int32} {MX MY : Mem} (hn : 20000 ≤ n0) (h : R n0 MX MY) : ∃ Z, stp20 n0 a MX MY = some Z ∧ R n0 Z.1 Z.2 := by
  have hn1 : 1700 ≤ n0 := by omega
  unfold stp20
  exact stN (cTells hn1 h).n
theorem sg21 {n0 : Nat} {a : Nat → Int32} {MX MY : Mem} (hn : 20000 ≤ n0) (h : R n0 MX MY) : ∃ Z, stp21 n0 a MX MY = some Z ∧ R n0 Z.1 Z.2 := by
  have hn1 : 1700 ≤ n0 := by omega
  unfold stp21
  exact stN (cMinutes hn1 h).n
theorem sg22 {n0 : Nat} {a : Nat → Int32} {MX MY : Mem} (hn : 20000 ≤ n0) (h : R n0 MX MY) : ∃ Z, stp22 n0 a MX MY = some Z ∧ R n0 Z.1 Z.2 := by
  have hn1 : 1700 ≤ n0 := by omega
  unfold stp22
  exact stN (cChance hn1 h).n
theorem sg23 {n0 : Nat} {a : Nat → Int32} {MX MY : Mem} (hn : 20000 ≤ n0) (h : R n0 MX MY) : ∃ Z, stp23 n0 a MX MY = some Z ∧ R n0 Z.1 Z.2 := by
  have hn1 : 1700 ≤ n0 := by omega
  unfold stp23
  exact stN (cGive hn1 h).n
theorem sg24 {n0 : Nat} {a : Nat → Int32} {MX MY : Mem} (hn : 20000 ≤ n0) (h : R n0 MX MY) : ∃ Z, stp24 n0 a MX MY = some Z ∧ R n0 Z.1 Z.2 := by
  have hn1 : 1700 ≤ n0 := by omega
  unfold stp24
  exact stN (cTake hn1 h).n
theorem sg25 {n0 : Nat} {a : Nat → Int32} {MX MY : Mem} (hn : 20000 ≤ n0) (h : R n0 MX MY) : ∃ Z, stp25 n0 a MX MY = some Z ∧ R n0 Z.1 Z.2 := by
  have hn1 : 1700 ≤ n0 := by omega
  unfold stp25
  exact stN (cUndo hn1 h).n
theorem sg26 {n0 : Nat} {a : Nat → Int32} {MX MY : Mem} (hn : 20000 ≤ n0) (h : R n0 MX MY) : ∃ Z, stp26 n0 a MX MY = some Z ∧ R n0 Z.1 Z.2 := by
  have hn1 : 1700 ≤ n0 := by omega
  unfold stp26
  exact stN (cSeed h).n
theorem sg27 {n0 : Nat} {a : Nat → Int32} {MX MY : Mem} (hn : 20000 ≤ n0) (h : R n0 MX MY) : ∃ Z, stp27 n0 a MX MY = some Z ∧ R n0 Z.1 Z.2 := by
  have hn1 : 1700 ≤ n0 := by omega
  unfold stp27
  exact stN (cKept h).n
theorem sg28 {n0 : Nat} {a : Nat → Int32} {MX MY : Mem} (hn : 20000 ≤ n0) (h : R n0 MX MY) : ∃ Z, stp28 n0 a MX MY = some Z ∧ R n0 Z.1 Z.2 := by
  have hn1 : 1700 ≤ n0 := by omega
  unfold stp28
  exact stN (cImage hn1 h).n
theorem sg29 {n0 : Nat} {a : Nat → Int32} {MX MY : Mem} (hn : 20000 ≤ n0) (h : R n0 MX MY) : ∃ Z, stp29 n0 a MX MY = some Z ∧ R n0 Z.1 Z.2 := by
  have hn1 : 1700 ≤ n0 := by omega
  unfold stp29
  exact stN (cOctet h).n
theorem sg30 {n0 : Nat} {a : Nat → Int32} {MX MY : Mem} (hn : 20000 ≤ n0) (h : R n0 MX MY) : ∃ Z, stp30 n0 a MX MY = some Z ∧ R n0 Z.1 Z.2 := by
  have hn1 : 1700 ≤ n0 := by omega
  unfold stp30
  exact stN (cOn hn1 h).n
theorem sg31 {n0 : Nat} {a : Nat → Int32} {MX MY : Mem} (hn : 20000 ≤ n0) (h : R n0 MX MY) : ∃ Z, stp31 n0 a MX MY = some Z ∧ R n0 Z.1 Z.2 := by
  have hn1 : 1700 ≤ n0 := by omega
  unfold stp31
  exact stN (cStatus h).n
theorem sgAll {n0 : Nat} {a : Nat → Int32} {MX MY : Mem} (hn : 20000 ≤ n0) (h : R n0 MX MY) (k : Nat) (hk : k < 32) : ∃ Z, stepL n0 k a MX MY = some Z ∧ R n0 Z.1 Z.2 := by
  rcases (show k = 0 ∨ k = 1 ∨ k = 2 ∨ k = 3 ∨ k = 4 ∨ k = 5 ∨ k = 6 ∨ k = 7 ∨ k = 8 ∨ k = 9 ∨ k = 10 ∨ k = 11 ∨ k = 12 ∨ k = 13 ∨ k = 14 ∨ k = 15 ∨ k = 16 ∨ k = 17 ∨ k = 18 ∨ k = 19 ∨ k = 20 ∨ k = 21 ∨ k = 22 ∨ k = 23 ∨ k = 24 ∨ k = 25 ∨ k = 26 ∨ k = 27 ∨ k = 28 ∨ k = 29 ∨ k = 30 ∨ k = 31 by omega) with rfl | rfl | rfl | rfl | rfl | rfl | rfl | rfl | rfl | rfl | rfl | rfl | rfl | rfl | rfl | rfl | rfl | rfl | rfl | rfl | rfl | rfl | rfl | rfl | rfl | rfl | rfl | rfl | rfl | rfl | rfl | rfl
  · exact sg0 (a := a) hn h
  · exact sg1 (a := a) hn h
  · exact sg2 (a := a) hn h
  · exact sg3 (a := a) hn h
  · exact sg4 (a := a) hn h
  · exact sg5 (a := a) hn h
  · exact sg6 (a := a) hn h
  · exact sg7 (a := a) hn h
  · exact sg8 (a := a) hn h
  · exact sg9 (a := a) hn h
  · exact sg10 (a := a) hn h
  · exact sg11 (a := a) hn h
  · exact sg12 (a := a) hn h
  · exact sg13 (a := a) hn h
  · exact sg14 (a := a) hn h
  · exact sg15 (a := a) hn h
  · exact sg16 (a := a) hn h
  · exact sg17 (a := a) hn h
  · exact sg18 (a := a) hn h
  · exact sg19 (a := a) hn h
  · exact sg20 (a := a) hn h
  · exact sg21 (a := a) hn h
  · exact sg22 (a := a) hn h
  · exact sg23 (a := a) hn h
  · exact sg24 (a := a) hn h
  · exact sg25 (a := a) hn h
  · exact sg26 (a := a) hn h
  · exact sg27 (a := a) hn h
  · exact sg28 (a := a) hn h
  · exact sg29 (a := a) hn h
  · exact sg30 (a := a) hn h
  · exact sg31 (a := a) hn h
theorem lawAll {n0 L : Nat} {xs : Nat → Int32} (hn : 20000 ≤ n0) : ∀ w j MX MY, 0 < w → L < j + 6 * w → R n0 MX MY → lawF n0 L xs w j MX MY = some ()
  | 0, _, _, _, h0, _, _ => absurd h0 (Nat.lt_irrefl 0)
  | w + 1, j, MX, MY, _, hw, h => by
    rw [lawF]
    by_cases g : j + 6 ≤ L
    · obtain ⟨Z, e1, e2⟩ := sgAll (a := fun t => xs (j + t)) hn h ((xs j).toBitVec.toNat % 32) (Nat.mod_lt _ (by decide))
      rw [if_pos g, e1, Option.bind_some]
      exact lawAll hn w (j + 6) Z.1 Z.2 (by omega) (by omega) e2
    · rw [if_neg g]
