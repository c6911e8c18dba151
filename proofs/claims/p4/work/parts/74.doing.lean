/-! STATEMENTS: doing -/
theorem TownR.bumpD {q b nt nc nd nr C v w c h : Nat} {MX MY : Mem} (hT : TownR q b nt nc nd nr C MX MY) (ht : nd < 6) (hw : WR v w) (x1 : gA MX (q + 9) nd = nI v) (y1 : gB MY 20 (6 * b + nd) = lN w) (x2 : gA MX (q + 10) nd = nI c) (y2 : gA MY 11 (6 * b + nd) = nI c) (hc : c < nc) (x3 : gA MX (q + 11) nd = nI h) (y3 : gA MY 12 (6 * b + nd) = nI h) (hh : h ≤ 23) : TownR q b nt nc (nd + 1) nr C (sI MX (128 * q + 12) (nI (nd + 1))) (sA MY 10 b (nI (nd + 1))) := by
  obtain ⟨⟨⟨a1, a2, a3⟩, ⟨a4, a5, a6⟩, ⟨a7, a8, a9⟩⟩, b1, b2, b3, ⟨c1, c2, c3⟩, ⟨p, p1, p2, p3⟩, d1, d2, d3⟩ := hT
  refine ⟨⟨⟨?_, a2, a3⟩, ⟨?_, a5, a6⟩, ⟨gI_at, ?_, ⟨by omega, fun i hi => ?_⟩⟩⟩, b1, b2, fun i hi => ?_, ⟨?_, c2, c3⟩, ⟨p, p1, ?_, p3⟩, ?_, ?_, d3⟩
  · rw [gI_ne (by omega)]; exact a1
  · rw [gI_ne (by omega)]; exact a4
  · rw [gA_sA, if_pos rfl, if_pos rfl]
  · by_cases e : i = nd
    · subst e; exact ⟨v, w, hw, x1, y1⟩
    · exact a9.2 i (by omega)
  · by_cases e : i = nd
    · subst e; exact ⟨x2.trans y2.symm, ⟨c, hc, x2⟩, x3.trans y3.symm, h, hh, x3⟩
    · exact b3 i (by omega)
  · rw [gI_ne (by omega)]; exact c1
  · rw [gI_ne (by omega)]; exact p2
  · unfold FmR xlist at d1 ⊢
    rw [gI_ne (by omega)]
    exact d1
  · unfold FmR xlist at d2 ⊢
    rw [gI_ne (by omega)]
    exact d2
def yD5 (n0 : Nat) (k : Int32) (z90 : Int32 × Mem) : Option Mem :=
  if oob k 12 then none else
  bnd (sA z90.2 12 (Int32.toNatClampNeg k) z90.1) fun M93 =>
  if (gI M93 8) = 0 then
    if oob (gI M93 34) 2 then none else
    if oob (gI M93 34) 2 then none else
    some (sA M93 10 (Int32.toNatClampNeg (gI M93 34)) ((gA M93 10 (Int32.toNatClampNeg (gI M93 34))) + (1 : Int32)))
  else
    some M93
def yD3 (n0 : Nat) (k : Int32) (z70 : Int32 × Mem) : Option Mem :=
  if oob k 12 then none else
  bnd (sA z70.2 11 (Int32.toNatClampNeg k) z70.1) fun M73 =>
  (fX12_must_ n0 (1752135026 : Int64) M73).bind fun z78 =>
  (fX12_number n0 (0 : Int32) (23 : Int32) z78).bind (yD5 n0 k)
def yD1 (n0 : Nat) (k : Int32) (z51 : Int64 × Mem) : Option Mem :=
  if oob k 12 then none else
  bnd (sB z51.2 20 (Int32.toNatClampNeg k) z51.1) fun M54 =>
  (fX12_must_ n0 (24948 : Int64) M54).bind fun z59 =>
  (fX12_knownBut n0 (1 : Int32) (0 : Int32) z59).bind (yD3 n0 k)
theorem doi_eq {n0 : Nat} {u1 : Int32} {M : Mem} : fX12_doings_20 n0 u1 M = (fX12_counts n0 u1 M).bind fun z20 => if z20.1 = 0 then some z20.2 else if oob (gI z20.2 34) 2 then none else bnd (((6 : Int32) * (gI z20.2 34)) + (gA z20.2 10 (Int32.toNatClampNeg (gI z20.2 34)))) fun k => (fX12_fresh n0 z20.2).bind (yD1 n0 k) := rfl
theorem yD5F {n0 b k : Nat} {M : Mem} {u : Int32} (hk : 6 * b ≤ k ∧ k < 6 * b + 6) (hb : b ≤ 1) (h : ¬ gI M 8 ≤ 0) : FT b M (yD5 n0 (nI k) (u, M)) := by
  have hc : (nI k).toNatClampNeg = k := nI_clamp (by omega)
  refine ⟨sA M 12 k u, ?_, rfl, rfl, FY2.r.a (by unfold regA; omega)⟩
  unfold yD5
  simp only [hc]
  exact eq_f (nI_in (by omega) (by decide)) (eq_n (eq_f (pos_ne h) rfl))
theorem yD3F {n0 b k : Nat} {M : Mem} {u : Int32} (hk : 6 * b ≤ k ∧ k < 6 * b + 6) (hb : b ≤ 1) (h : ¬ gI M 8 ≤ 0) : FT b M (yD3 n0 (nI k) (u, M)) := by
  have hc : (nI k).toNatClampNeg = k := nI_clamp (by omega)
  have h' : ¬ gI (sA M 11 k u) 8 ≤ 0 := h
  obtain ⟨M', e, a1, a2, a3⟩ := yD5F (n0 := n0) (u := 0) hk hb h'
  refine ⟨M', ?_, a1, a2, (FY2.r.a (by unfold regA; omega)).tr a3⟩
  unfold yD3
  simp only [hc]
  exact eq_f (nI_in (by omega) (by decide)) (eq_n (eq_b (ymustF h') (eq_b (ynumF h') e)))
theorem yD1F {n0 b k : Nat} {M : Mem} {u : Int64} (hk : 6 * b ≤ k ∧ k < 6 * b + 6) (hb : b ≤ 1) (h : ¬ gI M 8 ≤ 0) : FT b M (yD1 n0 (nI k) (u, M)) := by
  have hc : (nI k).toNatClampNeg = k := nI_clamp (by omega)
  have h' : ¬ gI (sB M 20 k u) 8 ≤ 0 := h
  obtain ⟨M', e, a1, a2, a3⟩ := yD3F (n0 := n0) (u := 0) hk hb h'
  refine ⟨M', ?_, a1, a2, (FY2.r.bb (by unfold regB; omega)).tr a3⟩
  unfold yD1
  simp only [hc]
  exact eq_f (nI_in (by omega) (by decide)) (eq_n (eq_b (ymustF h') (eq_b (ykF h') e)))
theorem xaddD {n0 q nd : Nat} {x1 x2 x3 : Int32} {M : Mem} (h : gI M (128 * q + 12) = nI nd) (ht : nd < 6) : fX9_addDoing n0 q x1 x2 x3 M = some (sI (sA (sA (sA M (q + 9) nd x1) (q + 10) nd x2) (q + 11) nd x3) (128 * q + 12) (nI (nd + 1))) := by
  have o : ¬ oob (gI M (128 * q + 12)) 6 := by rw [h]; exact nI_in ht (by decide)
  unfold fX9_addDoing
  refine eq_f (by rw [h]; exact nI_ge (b := 6) ht (by decide)) (eq_f o (eq_n (eq_f o (eq_n (eq_f o (eq_n ?_))))))
  simp only [gI_sA, h, nI_clamp (show nd < 2 ^ 31 by omega), nI_1]
theorem NmR.fr {q b nt nc nd nr C : Nat} {MX MY MX' MY' : Mem} (h : TownR q b nt nc nd nr C MX MY) (hq : q = 31 ∨ q = 47) (hx : FI 386 392 MX MX') (hA : gA MY' = gA MY) (hB : ∀ a i, ¬ frYb b nt nc nd a i → gB MY' a i = gB MY a i) : NmR q b nt nc nd MX' MY' := by
  refine (h.fine (MX' := MX') (MY' := MY') (fun j h1 _ => hx.2 j (by omega)) (fun a i _ _ _ => by rw [hx.A]) (fun a i _ _ _ => by rw [hA]) (fun a i _ g => hB a i g)).1
theorem doingS {n0 L s q b nt nc nd nr C : Nat} {MX MY : Mem} (hn : 1601 ≤ n0) (h : Rd L s q b nt nc nd nr C MX MY) (hk : gI MX 386 = 269) : StO L s q b MX MY (fX4_readStatement_229 n0 (bI (¬ nd = 6)) MX) (fX12_doings_20 n0 (bI (nd = 6)) MY) := by
  obtain ⟨hP, hA, hT, hC, hCs⟩ := h
  obtain ⟨f1, f2⟩ := fstP (n0 := n0) (full := nd = 6) hn hP (by rw [hk]; decide) (by rw [hk]; decide)
  rw [doi_eq]
  by_cases hf : nd = 6
  · obtain ⟨e1, e2⟩ := f1 hf
    refine Or.inr ⟨sI (sI MX 391 6) 392 (nI s), sI (sI MY 8 6) 9 (nI s), ?_, eq_b e2 (eq_t rfl rfl), Flt.mk (k := 6) (by decide) (by decide), FIf.q, FYf.b⟩
    unfold fX4_readStatement_229
    exact eq_b e1 (eq_t rfl rfl)
  obtain ⟨MX1, MY1, s1, ex1, ey1, hs1, hP1, fx1, fy1⟩ := f2 hf
  have hA1 : At q b MX1 MY1 := hA.fr fx1.q fy1.b
  have hT1 : TownR q b nt nc nd nr C MX1 MY1 := hT.tok hA.2.1 fx1 fy1
  have hb := hA.2.2.2
  have q7 := hA.2.1
  have ht : nd < 6 := by have := hT.1.2.2.2.2.1; omega
  have hkk : 6 * b ≤ 6 * b + nd ∧ 6 * b + nd < 6 * b + 6 := by omega
  have hcl : (nI (6 * b + nd)).toNatClampNeg = 6 * b + nd := nI_clamp (by omega)
  have ekk : ((6 : Int32) * (gI MY1 34)) + (gA MY1 10 (Int32.toNatClampNeg (gI MY1 34))) = nI (6 * b + nd) := by rw [hA1.2.2.1, nI_clamp (by omega), hT1.1.2.2.2.1, n6]
  have o34 : ¬ oob (gI MY1 34) 2 := by rw [hA1.2.2.1]; exact nI_in (by omega) (by decide)
  have okk : ¬ oob (nI (6 * b + nd)) 12 := nI_in (by omega) (by decide)
  unfold fX4_readStatement_229 fX4_readDoing
  rcases newP hn hP1 hA1 hT1.1 with ⟨v, w, MX2, MY2, s2, hw, ex2, ey2, hs2, hP2, fx2, fy2⟩ | ⟨MX2, MY2, u, ex2, ey2, hF, fx2, fy2⟩
  rotate_left
  · exact FT.stO hF (eq_b ex1 (eq_f i10 (eq_b (eq_b ex2 (eq_t rfl rfl)) (eq_t rfl rfl)))) (by
      obtain ⟨M', e, r⟩ := yD1F (n0 := n0) (u := u) hkk hb hF.pos
      exact ⟨M', eq_b ey1 (eq_f i10 (eq_f o34 (eq_n (eq_b ey2 (by rw [ekk]; exact e))))), r⟩) (fx1.q.tr fx2.q) (fy1.b.tr fy2.b)
  have nv : ¬ nI v = -1 := nI_m1 hw.v_lt
  have hP2' : PR L s2 MX2 (sB MY2 20 (6 * b + nd) (lN w)) := hP2.w rfl rfl rfl
  have fyA : FY2 b MY1 (sB MY2 20 (6 * b + nd) (lN w)) := fy2.b.bb (by unfold regB; omega)
  rcases skW (i := 10) (y := 24948) (kk := 270) hn (by decide) (by decide) (by decide) hP2' with ⟨MX3, MY3, s3, ex3, ey3, hs3, hP3, fx3, fy3⟩ | ⟨MX3, MY3, ex3, ey3, hF, fx3, fy3⟩
  rotate_left
  · exact FT.stO hF (eq_b ex1 (eq_f i10 (eq_b (eq_b ex2 (eq_f nv (eq_b ex3 (eq_t rfl rfl)))) (eq_t rfl rfl)))) (by
      obtain ⟨M', e, r⟩ := yD3F (n0 := n0) (u := 0) hkk hb hF.pos
      refine ⟨M', eq_b ey1 (eq_f i10 (eq_f o34 (eq_n (eq_b ey2 ?_)))), r⟩
      rw [ekk]
      unfold yD1
      simp only [hcl]
      exact eq_f okk (eq_n (eq_b ey3 (eq_b (ykF hF.pos) e)))) ((fx1.q.tr fx2.q).tr fx3.q) ((fy1.b.tr fyA).tr fy3.b)
  have fx13 : FI 386 392 MX1 MX3 := fx2.tr fx3
  have gb3 : ∀ a i, gB MY3 a i = gB (sB MY2 20 (6 * b + nd) (lN w)) a i := fun a i => by rw [fy3.2.2.2.2 a id]
  have ga3 : gA MY3 = gA MY1 := by
    funext a
    rw [fy3.2.1 a id]
    show gA MY2 a = _
    rw [fy2.2.1 a id]
  have hA3 : At q b MX3 MY3 := hA1.fr fx13.q (fyA.tr fy3.b)
  have hN3 : NmR q b nt nc nd MX3 MY3 := NmR.fr hT1 q7 fx13 ga3 (fun a i g => by
    unfold frYb at g
    rw [gb3, gB_sB]
    by_cases e : a = 20
    · rw [if_pos e, if_neg (by omega), fy2.2.2.2.2 20 id, e]
    · rw [if_neg e, fy2.2.2.2.2 a id])
  rcases corP (n0 := n0) 0 hn hP3 hA3 hN3 with ⟨MX4, MY4, ex4, ey4, hF, fx4, fy4⟩ | ⟨c, hc, ex4, -, hc4⟩
  · exact FT.stO hF (eq_b ex1 (eq_f i10 (eq_b (eq_b ex2 (eq_f nv (eq_b ex3 (eq_f i10 (eq_b ex4 (eq_t rfl rfl)))))) (eq_t rfl rfl)))) (by
      obtain ⟨M', e, r⟩ := yD3F (n0 := n0) (u := 0) hkk hb hF.pos
      refine ⟨M', eq_b ey1 (eq_f i10 (eq_f o34 (eq_n (eq_b ey2 ?_)))), r⟩
      rw [ekk]
      unfold yD1
      simp only [hcl]
      exact eq_f okk (eq_n (eq_b ey3 (eq_b ey4 e)))) (((fx1.q.tr fx2.q).tr fx3.q).tr fx4.q) (((fy1.b.tr fyA).tr fy3.b).tr fy4.b)
  have c5 := hN3.2.1.2.2.1
  obtain ⟨MX4, MY4, s4, ax4, ey4, hs4, hP4, fx4, fy4⟩ := hc4 (Hs0 (by omega))
  have nc1 : ¬ nI c = -1 := nI_m1 (by omega)
  have hP4' : PR L s4 MX4 (sA MY4 11 (6 * b + nd) (nI c)) := hP4.w rfl rfl (gA_sA_ne (by decide))
  have fyB : FY2 b MY3 (sA MY4 11 (6 * b + nd) (nI c)) := fy4.b.a (by unfold regA; omega)
  rcases skW (i := 11) (y := 1752135026) (kk := 271) hn (by decide) (by decide) (by decide) hP4' with ⟨MX5, MY5, s5, ex5, ey5, hs5, hP5, fx5, fy5⟩ | ⟨MX5, MY5, ex5, ey5, hF, fx5, fy5⟩
  rotate_left
  · exact FT.stO hF (eq_b ex1 (eq_f i10 (eq_b (eq_b ex2 (eq_f nv (eq_b ex3 (eq_f i10 (eq_b ex4 (eq_f nc1 (eq_b ax4 (eq_b ex5 (eq_t rfl (by unfold fX4_readDoing_68; exact eq_t rfl rfl)))))))))) (eq_t rfl rfl)))) (by
      obtain ⟨M', e, r⟩ := yD5F (n0 := n0) (u := 0) hkk hb hF.pos
      refine ⟨M', eq_b ey1 (eq_f i10 (eq_f o34 (eq_n (eq_b ey2 ?_)))), r⟩
      rw [ekk]
      unfold yD1 yD3
      simp only [hcl]
      exact eq_f okk (eq_n (eq_b ey3 (eq_b ey4 (eq_f okk (eq_n (eq_b ey5 (eq_b (ynumF hF.pos) e)))))))) ((((fx1.q.tr fx2.q).tr fx3.q).tr fx4.q).tr fx5.q) ((((fy1.b.tr fyA).tr fy3.b).tr fyB).tr fy5.b)
  rcases numP (lo := 0) (hi := 23) hn hP5 with ⟨v3, MX6, MY6, s6, hv3, lo3, hi3, ex6, ey6, hs6, hP6, fx6, fy6⟩ | ⟨MX6, MY6, u, ex6, ey6, hF, fx6, fy6⟩
  rotate_left
  · exact FT.stO hF (eq_b ex1 (eq_f i10 (eq_b (eq_b ex2 (eq_f nv (eq_b ex3 (eq_f i10 (eq_b ex4 (eq_f nc1 (eq_b ax4 (eq_b ex5 (eq_f i10 (eq_b ex6 (by unfold fX4_readDoing_68; exact eq_t rfl rfl))))))))))) (eq_t rfl rfl)))) (by
      obtain ⟨M', e, r⟩ := yD5F (n0 := n0) (u := u) hkk hb hF.pos
      refine ⟨M', eq_b ey1 (eq_f i10 (eq_f o34 (eq_n (eq_b ey2 ?_)))), r⟩
      rw [ekk]
      unfold yD1 yD3
      simp only [hcl]
      exact eq_f okk (eq_n (eq_b ey3 (eq_b ey4 (eq_f okk (eq_n (eq_b ey5 (eq_b ey6 e)))))))) (((((fx1.q.tr fx2.q).tr fx3.q).tr fx4.q).tr fx5.q).tr fx6.q) (((((fy1.b.tr fyA).tr fy3.b).tr fyB).tr fy5.b).tr fy6.b)
  -- the statement is read
  have nv3 : ¬ nI v3 = -1 := nI_m1 (by omega)
  have fxT : FI 386 392 MX1 MX6 := ((fx13.tr fx4).tr fx5).tr fx6
  have x130 : gR MX6 130 = q := by rw [fxT.R]; exact hA1.1
  have xcnt : gI MX6 (128 * q + 12) = nI nd := (fxT.2 _ (by omega)).trans hT1.1.2.2.1
  have fy56 : ∀ a i, gA MY6 a i = gA (sA MY4 11 (6 * b + nd) (nI c)) a i := fun a i => by rw [fy6.2.1 a id, fy5.2.1 a id]
  have fy34 : ∀ a i, gA MY4 a i = gA MY1 a i := fun a i => by rw [fy4.2.1 a id, ga3]
  have gb6 : ∀ a i, gB MY6 a i = gB (sB MY2 20 (6 * b + nd) (lN w)) a i := fun a i => by
    rw [fy6.2.2.2.2 a id, fy5.2.2.2.2 a id]
    show gB MY4 a i = _
    rw [fy4.2.2.2.2 a id, gb3]
  have y34 : gI MY6 34 = nI b := by
    rw [fy6.1 34 (by omega), fy5.1 34 (by omega)]
    show gI MY4 34 = _
    rw [fy4.1 34 (by omega)]
    exact hA3.2.2.1
  have y33 : gI MY6 33 = nI C := by
    rw [fy6.1 33 (by omega), fy5.1 33 (by omega)]
    show gI MY4 33 = _
    rw [fy4.1 33 (by omega), fy3.1 33 (by omega)]
    show gI MY2 33 = _
    rw [fy2.1 33 (by omega), fy1.1 33 (by omega)]
    exact hC
  have y2 : gA (sA MY6 12 (6 * b + nd) (nI v3)) 10 b = nI nd := by
    rw [gA_sA_ne (by decide), fy56, gA_sA_ne (by decide), fy34]
    exact hT1.1.2.2.2.1
  have hT6 : TownR q b nt nc nd nr C (sA (sA (sA MX6 (q + 9) nd (nI v)) (q + 10) nd (nI c)) (q + 11) nd (nI v3)) (sA MY6 12 (6 * b + nd) (nI v3)) := by
    refine hT1.fine (fun j h1 h2 => fxT.2 j (by omega)) (fun a i h1 h2 h3 => ?_) (fun a i h1 h2 h3 => ?_) (fun a i h2 h3 => ?_)
    · unfold frX at h3
      rw [gA_sA]
      by_cases e3 : a = q + 11
      · rw [if_pos e3, if_neg (by omega), gA_sA_ne (by omega), gA_sA_ne (by omega), fxT.A, e3]
      · rw [if_neg e3, gA_sA]
        by_cases e2 : a = q + 10
        · rw [if_pos e2, if_neg (by omega), gA_sA_ne (by omega), fxT.A, e2]
        · rw [if_neg e2, gA_sA]
          by_cases e1 : a = q + 9
          · rw [if_pos e1, if_neg (by omega), fxT.A, e1]
          · rw [if_neg e1, fxT.A]
    · unfold frYa at h3
      rw [gA_sA]
      by_cases e4 : a = 12
      · rw [if_pos e4, if_neg (by omega), fy56, gA_sA_ne (by decide), fy34, e4]
      · rw [if_neg e4, fy56, gA_sA]
        by_cases e3 : a = 11
        · rw [if_pos e3, if_neg (by omega), fy34, e3]
        · rw [if_neg e3, fy34]
    · unfold frYb at h3
      show gB MY6 a i = _
      rw [gb6, gB_sB]
      by_cases e : a = 20
      · rw [if_pos e, if_neg (by omega), fy2.2.2.2.2 20 id, e]
      · rw [if_neg e, fy2.2.2.2.2 a id]
  have hT7 := hT6.bumpD ht hw (by rw [gA_sA_ne (by omega), gA_sA_ne (by omega), gA_sA, if_pos rfl, if_pos rfl]) (by
    show gB MY6 20 _ = _
    rw [gb6, gB_sB, if_pos rfl, if_pos rfl]) (by rw [gA_sA_ne (by omega), gA_sA, if_pos rfl, if_pos rfl]) (by rw [gA_sA_ne (by decide), fy56, gA_sA, if_pos rfl, if_pos rfl]) hc (by rw [gA_sA, if_pos rfl, if_pos rfl]) (by rw [gA_sA, if_pos rfl, if_pos rfl]) ((nI_leI (a := v3) (b := 23) (by omega) (by decide)).mp hi3)
  have fyE : FY2 b MY (sA (sA MY6 12 (6 * b + nd) (nI v3)) 10 b (nI (nd + 1))) := (((((((fy1.b.tr fyA).tr fy3.b).tr fyB).tr fy5.b).tr fy6.b).a (by unfold regA; omega)).a (by unfold regA; omega))
  have fxE : FX2 q MX (sI (sA (sA (sA MX6 (q + 9) nd (nI v)) (q + 10) nd (nI c)) (q + 11) nd (nI v3)) (128 * q + 12) (nI (nd + 1))) := (((fx1.tr fxT).q.a (by omega)).a (by omega)).a (by omega) |>.i (by unfold rgX; omega)
  refine Or.inl ⟨_, _, s6, nt, nc, nd + 1, nr, C, ?_, ?_, by omega, ⟨?_, hA.fr fxE fyE, hT7, ?_, by omega⟩, fxE, fyE⟩
  · have hd : fX4_readDoing_68 n0 (nI v) (nI c) (nI v3) MX6 = some (1, sI (sA (sA (sA MX6 (q + 9) nd (nI v)) (q + 10) nd (nI c)) (q + 11) nd (nI v3)) (128 * q + 12) (nI (nd + 1))) := by
      unfold fX4_readDoing_68
      refine eq_f nv3 (eq_b ?_ rfl)
      show fX9_addDoing n0 (gR MX6 130) _ _ _ MX6 = _
      rw [x130]
      exact xaddD xcnt ht
    exact eq_b ex1 (eq_f i10 (eq_b (eq_b ex2 (eq_f nv (eq_b ex3 (eq_f i10 (eq_b ex4 (eq_f nc1 (eq_b ax4 (eq_b ex5 (eq_f i10 (eq_b ex6 hd)))))))))) (eq_f i10 rfl)))
  · refine eq_b ey1 (eq_f i10 (eq_f o34 (eq_n (eq_b ey2 ?_))))
    rw [ekk]
    unfold yD1 yD3 yD5
    simp only [hcl]
    have o34' : ¬ oob (gI MY6 34) 2 := by rw [y34]; exact nI_in (by omega) (by decide)
    refine eq_f okk (eq_n (eq_b ey3 (eq_b ey4 (eq_f okk (eq_n (eq_b ey5 (eq_b ey6 (eq_f okk (eq_n (eq_t hP6.f8 (eq_f o34' (eq_f o34' ?_))))))))))))
    have c34 : (gI (sA MY6 12 (6 * b + nd) (nI v3)) 34).toNatClampNeg = b := by
      show (gI MY6 34).toNatClampNeg = b
      rw [y34, nI_clamp (by omega)]
    show some (sA (sA MY6 12 (6 * b + nd) (nI v3)) 10 (gI (sA MY6 12 (6 * b + nd) (nI v3)) 34).toNatClampNeg (gA (sA MY6 12 (6 * b + nd) (nI v3)) 10 (gI (sA MY6 12 (6 * b + nd) (nI v3)) 34).toNatClampNeg + 1)) = _
    rw [c34, y2, nI_1]
  · refine hP6.cong (fun j h1 h2 => ?_) ?_ ?_ ?_ (fun j _ => rfl) rfl ?_
    · rw [gI_ne (by omega)]; rfl
    · rw [gI_ne (by omega)]; rfl
    · show gA (sA (sA (sA MX6 (q + 9) nd (nI v)) (q + 10) nd (nI c)) (q + 11) nd (nI v3)) 4 = _
      rw [gA_sA_ne (by omega), gA_sA_ne (by omega), gA_sA_ne (by omega)]
    · show gA (sA (sA (sA MX6 (q + 9) nd (nI v)) (q + 10) nd (nI c)) (q + 11) nd (nI v3)) 6 = _
      rw [gA_sA_ne (by omega), gA_sA_ne (by omega), gA_sA_ne (by omega)]
    · rw [gA_sA_ne (by decide), gA_sA_ne (by decide)]
  · show gI MY6 33 = _
    exact y33
