/-! ONE CODE OF A FORMULA ON BOTH SIDES: numbers, facts, a TEST that holds, NOT, IF -/
theorem evlit {n0 q1 b wh e len i j : Nat} {st : List Bool} {MX MY : Mem} {c2 : Int32} (h : EvR q1 b wh e len st MX MY) (hl : st.length < 60) (h0 : 0 ≤ c2) (h9 : c2 ≤ 9999) (hj : j < len) (hi : i < e) (hX : gA MX (q1 + 1) j = c2) (hY : gA MY 16 (1600 * b + i) = 0) (hY2 : gA MY 17 (1600 * b + i) = c2) : Ev1 n0 q1 b wh e len st (false :: st) i j 1 MX MY := by
  obtain ⟨q8, q7, n1, n2, h93, h60, hS, hH, hF⟩ := id h
  have hle : ¬ gI MX (128 * q1 + 1) ≤ nI j := by rw [n1]; exact nI_ge hj (by omega)
  have a1 : (0 : Int) ≤ c2.toInt := Int32.le_iff_toInt_le.mp h0
  have a2 : c2.toInt ≤ (9999 : Int) := Int32.le_iff_toInt_le.mp h9
  have m : mR c2.toInt := by unfold mR; omega
  refine evpush (a := c2.toInt) h hl m (fun z => by cases z) (fun w => ?_) (fun w => ?_)
  · rw [zI_of]
    exact xlit (by omega) h93 (by omega) hle hX h0
  · rw [← zIL m, zI_of, ← hY2]
    exact ylit hH hi (by omega) hY
theorem evone {n0 q1 b wh e len i j : Nat} {st : List Bool} {MX MY : Mem} (h : EvR q1 b wh e len st MX MY) (hl : st.length < 60) (hj : j < len) (hi : i < e) (hX : gA MX (q1 + 1) j = 1) (hY : gA MY 16 (1600 * b + i) = 30) : Ev1 n0 q1 b wh e len st (true :: st) i j 1 MX MY := by
  obtain ⟨q8, q7, n1, n2, h93, h60, hS, hH, hF⟩ := id h
  have hle : ¬ gI MX (128 * q1 + 1) ≤ nI j := by rw [n1]; exact nI_ge hj (by omega)
  refine evpush (a := 1) h hl m1 (fun _ => Or.inr rfl) (fun w => ?_) (fun w => ?_)
  · rw [← zi1]
    exact xlit (by omega) h93 (by omega) hle hX (by decide)
  · rw [← zl1]
    exact yone hH hi (by omega) hY
theorem evfact {n0 q1 b wh e len i j s : Nat} {st : List Bool} {MX MY : Mem} (h : EvR q1 b wh e len st MX MY) (hl : st.length < 60) (hs : 1 ≤ s ∧ s ≤ 6) (hj : j < len) (hi : i < e) (hX : gA MX (q1 + 1) j = - nI s) (hY : gA MY 16 (1600 * b + i) = nI s) : Ev1 n0 q1 b wh e len st (false :: st) i j 1 MX MY := by
  obtain ⟨q8, q7, n1, n2, h93, h60, hS, hH, hF⟩ := id h
  have hle : ¬ gI MX (128 * q1 + 1) ≤ nI j := by rw [n1]; exact nI_ge hj (by omega)
  obtain ⟨a, a1, a2, m⟩ := hF s hs.1 hs.2
  refine evpush (a := a) h hl m (fun z => by cases z) (fun w => ?_) (fun w => ?_)
  · rw [← a1]
    exact xfact (by omega) h93 (by omega) hle hs hX
  · rw [← zIL m, ← a2]
    exact yfact hH hi (by omega) hs hY
theorem evif {n0 q1 b wh e len i j : Nat} {r : List Bool} {MX MY : Mem} (h : EvR q1 b wh e len (false :: false :: true :: r) MX MY) (hj : j < len) (hi : i < e) (hX : gA MX (q1 + 1) j = -14) (hY : gA MY 16 (1600 * b + i) = 44) : Ev1 n0 q1 b wh e len (false :: false :: true :: r) (false :: r) i j 1 MX MY := by
  have l : (false :: false :: true :: r).length = r.length + 3 := rfl
  obtain ⟨q8, q7, n1, n2, h93, h60, ⟨⟨v, v1, v2, v3, v4⟩, ⟨u, u1, u2, u3, u4⟩, ⟨a, a1, a2, a3, a4⟩, hS⟩, hH, hF⟩ := id h
  have l2 : (false :: true :: r).length = r.length + 2 := rfl
  have l1 : (true :: r).length = r.length + 1 := rfl
  rw [l2] at v1 v2
  rw [l1] at u1 u2
  have hle : ¬ gI MX (128 * q1 + 1) ≤ nI j := by rw [n1]; exact nI_ge hj (by omega)
  have ez : (if a = 1 then gB MY 34 (r.length + 1) else gB MY 34 (r.length + 2)) = zL (if a = 1 then u else v) := by
    by_cases g : a = 1
    · rw [if_pos g, if_pos g, u2]
    · rw [if_neg g, if_neg g, v2]
  refine ⟨sA (sI MX 903 (nI (r.length + 1))) 9 r.length (zI (if a = 1 then u else v)), sB MY 34 r.length (zL (if a = 1 then u else v)), fun w => ?_, fun w => ?_, h.go VX.r.i.a VY.r.b (by rw [gI_sA]; exact gI_at) (by show r.length + 1 ≤ 60; omega) (hS.put gA_sA_at rfl (mif u3 v3) (fun z => by cases z)), VX.r.i.a, VY.r.b⟩
  · exact xop (by omega) hle hX (by decide) (xif (by omega) h93 a1 u1 v1 (a4 rfl) u3 v3)
  · rw [← ez]
    exact yif hH hi (by omega) hY (a4 rfl) a2
