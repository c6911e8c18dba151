/-! STATEMENTS: corner, pass -/
theorem TownR.bumpC {q b nt nc nd nr C v w : Nat} {MX MY : Mem} (h : TownR q b nt nc nd nr C MX MY) (ht : nc < 5) (hw : WR v w) (x1 : gA MX (q + 4) nc = nI v) (y1 : gB MY 19 (5 * b + nc) = lN w) (x2 : gA MX (q + 5) nc = -1) (y2 : gA MY 6 (5 * b + nc) = -1) : TownR q b nt (nc + 1) nd nr C (sI MX (128 * q + 5) (nI (nc + 1))) (sA MY 5 b (nI (nc + 1))) := by
  obtain ⟨⟨⟨a1, a2, a3⟩, ⟨a4, a5, a6⟩, ⟨a7, a8, a9⟩⟩, b1, b2, b3, ⟨c1, c2, c3⟩, ⟨p, p1, p2, p3⟩, d1, d2, d3⟩ := h
  refine ⟨⟨⟨?_, a2, a3⟩, ⟨gI_at, ?_, ⟨by omega, fun i hi => ?_⟩⟩, ⟨?_, a8, a9⟩⟩, b1, fun i hi => ?_, fun i hi => ?_, ⟨?_, c2, ⟨c3.1, fun k hk => ?_, c3.2.2⟩⟩, ⟨p, p1, ?_, p3⟩, ?_, ?_, d3⟩
  · rw [gI_ne (by omega)]; exact a1
  · rw [gA_sA, if_pos rfl, if_pos rfl]
  · by_cases e : i = nc
    · subst e; exact ⟨v, w, hw, x1, y1⟩
    · exact a6.2 i (by omega)
  · rw [gI_ne (by omega)]; exact a7
  · by_cases e : i = nc
    · subst e; exact ⟨x2.trans y2.symm, Or.inl x2⟩
    · exact b2 i (by omega)
  · obtain ⟨g1, ⟨k, g2, g3⟩, g4⟩ := b3 i hi
    exact ⟨g1, ⟨k, by omega, g3⟩, g4⟩
  · rw [gI_ne (by omega)]; exact c1
  · obtain ⟨a, c, v, g1, g2, g3⟩ := c3.2.1 k hk
    exact ⟨a, c, v, by omega, by omega, g3⟩
  · rw [gI_ne (by omega)]; exact p2
  · unfold FmR xlist at d1 ⊢
    rw [gI_ne (by omega)]
    exact d1
  · unfold FmR xlist at d2 ⊢
    rw [gI_ne (by omega)]
    exact d2
def yC1 (n0 : Nat) (k : Int32) (z47 : Int64 × Mem) : Option Mem :=
    if oob k 10 then none else
    bnd (sB z47.2 19 (Int32.toNatClampNeg k) z47.1) fun M50 =>
    if oob (gI M50 34) 2 then none else
    if oob (((5 : Int32) * (gI M50 34)) + (gA M50 5 (Int32.toNatClampNeg (gI M50 34)))) 10 then none else
    bnd (sA M50 6 (Int32.toNatClampNeg (((5 : Int32) * (gI M50 34)) + (gA M50 5 (Int32.toNatClampNeg (gI M50 34))))) (-1 : Int32)) fun M72 =>
    if (gI M72 8) = 0 then
      if oob (gI M72 34) 2 then none else
      if oob (gI M72 34) 2 then none else
      some (sA M72 5 (Int32.toNatClampNeg (gI M72 34)) ((gA M72 5 (Int32.toNatClampNeg (gI M72 34))) + (1 : Int32)))
    else
      some M72
theorem cor_eq {n0 : Nat} {u1 : Int32} {M : Mem} : fX12_cornering_19 n0 u1 M = (fX12_counts n0 u1 M).bind fun z19 => if z19.1 = 0 then some z19.2 else if oob (gI z19.2 34) 2 then none else (fX12_fresh n0 z19.2).bind (yC1 n0 (((5 : Int32) * (gI z19.2 34)) + (gA z19.2 5 (Int32.toNatClampNeg (gI z19.2 34))))) := rfl
theorem yC1e {n0 b nc : Nat} {u : Int64} {M : Mem} (hb : b ≤ 1) (hc : nc < 5) (h34 : gI M 34 = nI b) (h5 : gA M 5 b = nI nc) :
    (gI M 8 = 0 → yC1 n0 (nI (5 * b + nc)) (u, M) = some (sA (sA (sB M 19 (5 * b + nc) u) 6 (5 * b + nc) (-1)) 5 b (nI (nc + 1)))) ∧ (¬ gI M 8 = 0 → yC1 n0 (nI (5 * b + nc)) (u, M) = some (sA (sB M 19 (5 * b + nc) u) 6 (5 * b + nc) (-1))) := by
  have hcl : (nI (5 * b + nc)).toNatClampNeg = 5 * b + nc := nI_clamp (by omega)
  have hcb : (nI b).toNatClampNeg = b := nI_clamp (by omega)
  have o1 : ¬ oob (nI (5 * b + nc)) 10 := nI_in (by omega) (by decide)
  have o2 : ¬ oob (nI b) 2 := nI_in (by omega) (by decide)
  have e : ∀ v : Int64, (5 : Int32) * gI (sB M 19 (5 * b + nc) v) 34 + gA (sB M 19 (5 * b + nc) v) 5 (Int32.toNatClampNeg (gI (sB M 19 (5 * b + nc) v) 34)) = nI (5 * b + nc) := fun v => by
    show (5 : Int32) * gI M 34 + gA M 5 (Int32.toNatClampNeg (gI M 34)) = _
    rw [h34, hcb, h5, n5]
  constructor
  · intro h8
    unfold yC1
    simp only [hcl]
    refine eq_f o1 (eq_n (eq_f (by show ¬ oob (gI M 34) 2; rw [h34]; exact o2) (eq_f (by rw [e]; exact o1) (eq_n (eq_t h8 (eq_f (by show ¬ oob (gI M 34) 2; rw [h34]; exact o2) (eq_f (by show ¬ oob (gI M 34) 2; rw [h34]; exact o2) ?_)))))))
    rw [e, hcl]
    show some (sA (sA (sB M 19 (5 * b + nc) u) 6 (5 * b + nc) (-1)) 5 (gI M 34).toNatClampNeg (gA (sA (sB M 19 (5 * b + nc) u) 6 (5 * b + nc) (-1)) 5 (gI M 34).toNatClampNeg + 1)) = _
    rw [h34, hcb, gA_sA_ne (by decide)]
    show some (sA _ 5 b (gA M 5 b + 1)) = _
    rw [h5, nI_1]
  · intro h8
    unfold yC1
    simp only [hcl]
    refine eq_f o1 (eq_n (eq_f (by show ¬ oob (gI M 34) 2; rw [h34]; exact o2) (eq_f (by rw [e]; exact o1) (eq_n (eq_f h8 ?_)))))
    rw [e, hcl]
theorem xaddC {n0 q nc : Nat} {x1 : Int32} {M : Mem} (h : gI M (128 * q + 5) = nI nc) (ht : nc < 5) : fX9_addCorner n0 q x1 M = some (sI (sA (sA M (q + 4) nc x1) (q + 5) nc (-1)) (128 * q + 5) (nI (nc + 1))) := by
  have o : ¬ oob (gI M (128 * q + 5)) 5 := by rw [h]; exact nI_in ht (by decide)
  unfold fX9_addCorner
  refine eq_f (by rw [h]; exact nI_ge (b := 5) ht (by decide)) (eq_f o (eq_n (eq_f o (eq_n ?_))))
  simp only [gI_sA, h, nI_clamp (show nc < 2 ^ 31 by omega), nI_1]
theorem cornerS {n0 L s q b nt nc nd nr C : Nat} {MX MY : Mem} (hn : 1601 ≤ n0) (h : Rd L s q b nt nc nd nr C MX MY) (hk : gI MX 386 = 263) : StO L s q b MX MY (fX4_readStatement_134 n0 (bI (¬ nc = 5)) MX) (fX12_cornering_19 n0 (bI (nc = 5)) MY) := by
  obtain ⟨hP, hA, hT, hC, hCs⟩ := h
  obtain ⟨f1, f2⟩ := fstP (n0 := n0) (full := nc = 5) hn hP (by rw [hk]; decide) (by rw [hk]; decide)
  rw [cor_eq]
  by_cases hf : nc = 5
  · obtain ⟨e1, e2⟩ := f1 hf
    refine Or.inr ⟨sI (sI MX 391 6) 392 (nI s), sI (sI MY 8 6) 9 (nI s), ?_, eq_b e2 (eq_t rfl rfl), Flt.mk (k := 6) (by decide) (by decide), FIf.q, FYf.b⟩
    unfold fX4_readStatement_134
    exact eq_b e1 (eq_t rfl rfl)
  obtain ⟨MX1, MY1, s1, ex1, ey1, hs1, hP1, fx1, fy1⟩ := f2 hf
  have hA1 : At q b MX1 MY1 := hA.fr fx1.q fy1.b
  have hT1 : TownR q b nt nc nd nr C MX1 MY1 := hT.tok hA.2.1 fx1 fy1
  have hb := hA.2.2.2
  have ht : nc < 5 := by have := hT.1.2.1.2.2.1; omega
  have ekk : ((5 : Int32) * (gI MY1 34)) + (gA MY1 5 (Int32.toNatClampNeg (gI MY1 34))) = nI (5 * b + nc) := by rw [hA1.2.2.1, nI_clamp (by omega), hT1.1.2.1.2.1, n5]
  have o34 : ¬ oob (gI MY1 34) 2 := by rw [hA1.2.2.1]; exact nI_in (by omega) (by decide)
  unfold fX4_readStatement_134 fX4_readCorner
  rcases newP hn hP1 hA1 hT1.1 with ⟨v, w, MX2, MY2, s2, hw, ex2, ey2, hs2, hP2, fx2, fy2⟩ | ⟨MX2, MY2, u, ex2, ey2, hF, fx2, fy2⟩
  · have nv : ¬ nI v = -1 := nI_m1 hw.v_lt
    have q7 := hA.2.1
    have x130 : gR MX2 130 = q := by rw [fx2.R]; exact hA1.1
    have xcnt : gI MX2 (128 * q + 5) = nI nc := (fx2.2 _ (by omega)).trans hT1.1.2.1.1
    have y34 : gI MY2 34 = nI b := (fy2.1 34 (by omega)).trans hA1.2.2.1
    have y5 : gA MY2 5 b = nI nc := by rw [fy2.2.1 5 id]; exact hT1.1.2.1.2.1
    have hT6 : TownR q b nt nc nd nr C (sA (sA MX2 (q + 4) nc (nI v)) (q + 5) nc (-1)) (sA (sB MY2 19 (5 * b + nc) (lN w)) 6 (5 * b + nc) (-1)) := by
      refine hT1.fine (fun j h1 h2 => fx2.2 j (by omega)) (fun a i h1 h2 h3 => ?_) (fun a i h1 h2 h3 => ?_) (fun a i h2 h3 => ?_)
      · unfold frX at h3
        rw [gA_sA]
        by_cases e3 : a = q + 5
        · rw [if_pos e3, if_neg (by omega), gA_sA_ne (by omega), fx2.A, e3]
        · rw [if_neg e3, gA_sA]
          by_cases e2 : a = q + 4
          · rw [if_pos e2, if_neg (by omega), fx2.A, e2]
          · rw [if_neg e2, fx2.A]
      · unfold frYa at h3
        rw [gA_sA]
        by_cases e4 : a = 6
        · rw [if_pos e4, if_neg (by omega)]
          show gA MY2 6 i = _
          rw [fy2.2.1 6 id, e4]
        · rw [if_neg e4]
          show gA MY2 a i = _
          rw [fy2.2.1 a id]
      · unfold frYb at h3
        show gB (sB MY2 19 (5 * b + nc) (lN w)) a i = _
        rw [gB_sB]
        by_cases e : a = 19
        · rw [if_pos e, if_neg (by omega), fy2.2.2.2.2 19 id, e]
        · rw [if_neg e, fy2.2.2.2.2 a id]
    have hT7 := hT6.bumpC ht hw (by rw [gA_sA_ne (by omega), gA_sA, if_pos rfl, if_pos rfl]) (by
      show gB (sB MY2 19 (5 * b + nc) (lN w)) 19 _ = _
      rw [gB_sB, if_pos rfl, if_pos rfl]) (by rw [gA_sA, if_pos rfl, if_pos rfl]) (by rw [gA_sA, if_pos rfl, if_pos rfl])
    have fyE : FY2 b MY (sA (sA (sB MY2 19 (5 * b + nc) (lN w)) 6 (5 * b + nc) (-1)) 5 b (nI (nc + 1))) := (((fy1.b.tr fy2.b).bb (by unfold regB; omega)).a (by unfold regA; omega)).a (by unfold regA; omega)
    have fxE : FX2 q MX (sI (sA (sA MX2 (q + 4) nc (nI v)) (q + 5) nc (-1)) (128 * q + 5) (nI (nc + 1))) := (((fx1.tr fx2).q.a (by omega)).a (by omega)).i (by unfold rgX; omega)
    refine Or.inl ⟨_, _, s2, nt, nc + 1, nd, nr, C, ?_, ?_, by omega, ⟨?_, hA.fr fxE fyE, hT7, ?_, by omega⟩, fxE, fyE⟩
    · refine eq_b ex1 (eq_f i10 (eq_b (eq_b ex2 (eq_f nv (eq_b ?_ rfl))) (eq_f i10 rfl)))
      show fX9_addCorner n0 (gR MX2 130) _ MX2 = _
      rw [x130]
      exact xaddC xcnt ht
    · refine eq_b ey1 (eq_f i10 (eq_f o34 (eq_b ey2 ?_)))
      rw [ekk]
      exact (yC1e hb ht y34 y5).1 hP2.f8
    · refine hP2.cong (fun j h1 h2 => ?_) ?_ ?_ ?_ (fun j _ => rfl) rfl ?_
      · rw [gI_ne (by omega)]; rfl
      · rw [gI_ne (by omega)]; rfl
      · show gA (sA (sA MX2 (q + 4) nc (nI v)) (q + 5) nc (-1)) 4 = _
        rw [gA_sA_ne (by omega), gA_sA_ne (by omega)]
      · show gA (sA (sA MX2 (q + 4) nc (nI v)) (q + 5) nc (-1)) 6 = _
        rw [gA_sA_ne (by omega), gA_sA_ne (by omega)]
      · rw [gA_sA_ne (by decide), gA_sA_ne (by decide)]
        rfl
    · show gI MY2 33 = _
      rw [fy2.1 33 (by omega), fy1.1 33 (by omega)]
      exact hC
  · refine FT.stO hF (eq_b ex1 (eq_f i10 (eq_b (eq_b ex2 (eq_t rfl rfl)) (eq_t rfl rfl)))) ⟨sA (sB MY2 19 (5 * b + nc) u) 6 (5 * b + nc) (-1), ?_, rfl, rfl, (FY2.r.bb (by unfold regB; omega)).a (by unfold regA; omega)⟩ (fx1.q.tr fx2.q) (fy1.b.tr fy2.b)
    refine eq_b ey1 (eq_f i10 (eq_f o34 (eq_b ey2 ?_)))
    rw [ekk]
    exact (yC1e hb ht ((fy2.1 34 (by omega)).trans hA1.2.2.1) (by rw [fy2.2.1 5 id]; exact hT1.1.2.1.2.1)).2 (pos_ne hF.pos)
/-- the statement pass, as the class's readStatement has it -/
def xPass (n0 : Nat) (M : Mem) : Option (Int32 × Mem) :=
    (fX4_skipFirst n0 (1 : Int32) M).bind fun z346 =>
    if z346.1 = 0 then
      some ((0 : Int32), z346.2)
    else
      (fX4_readPass n0 z346.2).bind fun z353 =>
      if z353.1 = 0 then
        some ((0 : Int32), z353.2)
      else
        some ((1 : Int32), z353.2)
theorem TownR.setP {q b nt nc nd nr C p : Nat} {MX MY : Mem} (h : TownR q b nt nc nd nr C MX MY) (hp : p ≤ 100) : TownR q b nt nc nd nr C (sI MX (128 * q + 16) (nI p)) (sA MY 13 b (nI p)) := by
  obtain ⟨⟨⟨a1, a2, a3⟩, ⟨a4, a5, a6⟩, ⟨a7, a8, a9⟩⟩, b1, b2, b3, ⟨c1, c2, c3⟩, -, d1, d2, d3⟩ := h
  refine ⟨⟨⟨?_, a2, a3⟩, ⟨?_, a5, a6⟩, ⟨?_, a8, a9⟩⟩, b1, b2, b3, ⟨?_, c2, c3⟩, ⟨p, hp, gI_at, ?_⟩, ?_, ?_, d3⟩
  · rw [gI_ne (by omega)]; exact a1
  · rw [gI_ne (by omega)]; exact a4
  · rw [gI_ne (by omega)]; exact a7
  · rw [gI_ne (by omega)]; exact c1
  · rw [gA_sA, if_pos rfl, if_pos rfl]
  · unfold FmR xlist at d1 ⊢
    rw [gI_ne (by omega)]
    exact d1
  · unfold FmR xlist at d2 ⊢
    rw [gI_ne (by omega)]
    exact d2
theorem passS {n0 L s q b nt nc nd nr C : Nat} {MX MY : Mem} (hn : 1601 ≤ n0) (h : Rd L s q b nt nc nd nr C MX MY) (hk : gI MX 386 = 274) : StO L s q b MX MY (xPass n0 MX) (fX12_passing n0 MY) := by
  obtain ⟨hP, hA, hT, hC, hCs⟩ := h
  obtain ⟨-, f2⟩ := fstP (n0 := n0) (full := False) hn hP (by rw [hk]; decide) (by rw [hk]; decide)
  obtain ⟨MX1, MY1, s1, ex1, ey1, hs1, hP1, fx1, fy1⟩ := f2 id
  rw [bI_t (show ¬ False from id)] at ex1
  rw [bI_f (show ¬ False from id)] at ey1
  have q7 := hA.2.1
  have hb := hA.2.2.2
  unfold xPass fX4_readPass fX12_passing
  rcases numP (lo := 0) (hi := 100) hn hP1 with ⟨v2, MX4, MY4, s4, hv2, lo2, hi2, ex4, ey4, hs4, hP4, fx4, fy4⟩ | ⟨MX4, MY4, u, ex4, ey4, hF, fx4, fy4⟩
  · have nv2 : ¬ nI v2 = -1 := nI_m1 (by omega)
    have hT4 : TownR q b nt nc nd nr C MX4 MY4 := (hT.tok q7 fx1 fy1).tok q7 fx4 fy4
    have x130 : gR MX4 130 = q := by rw [fx4.R, fx1.R]; exact hA.1
    have y34 : gI MY4 34 = nI b := ((fy4.1 34 (by omega)).trans (fy1.1 34 (by omega))).trans hA.2.2.1
    have hT5 := hT4.setP (p := v2) ((nI_leI (a := v2) (b := 100) (by omega) (by decide)).mp hi2)
    have fyE : FY2 b MY (sA MY4 13 b (nI v2)) := (fy1.b.tr fy4.b).a (by unfold regA; omega)
    have fxE : FX2 q MX (sI MX4 (128 * q + 16) (nI v2)) := ((fx1.tr fx4).q).i (by unfold rgX; omega)
    refine Or.inl ⟨_, _, s4, nt, nc, nd, nr, C, ?_, ?_, by omega, ⟨?_, hA.fr fxE fyE, hT5, ?_, by omega⟩, fxE, fyE⟩
    · refine eq_b ex1 (eq_f i10 (eq_b (eq_b ex4 (eq_f nv2 (eq_n rfl))) (eq_f i10 ?_)))
      show some ((1 : Int32), sI MX4 (128 * gR MX4 130 + 16) (nI v2)) = _
      rw [x130]
    · refine eq_b ey1 (eq_f i10 (eq_b ey4 (eq_t hP4.f8 (eq_f (by show ¬ oob (gI MY4 34) 2; rw [y34]; exact nI_in (by omega) (by decide)) ?_))))
      show some (sA MY4 13 (gI MY4 34).toNatClampNeg (nI v2)) = _
      rw [y34, nI_clamp (by omega)]
    · exact hP4.cong (fun j h1 h2 => by rw [gI_ne (by omega)]) (by rw [gI_ne (by omega)]) rfl rfl (fun j _ => rfl) rfl (gA_sA_ne (by decide))
    · show gI MY4 33 = _
      rw [fy4.1 33 (by omega), fy1.1 33 (by omega)]
      exact hC
  · exact Or.inr ⟨MX4, MY4, eq_b ex1 (eq_f i10 (eq_b (eq_b ex4 (eq_t rfl rfl)) (eq_t rfl rfl))), eq_b ey1 (eq_f i10 (eq_b ey4 (eq_f (pos_ne hF.pos) rfl))), hF, fx1.q.tr fx4.q, fy1.b.tr fy4.b⟩
