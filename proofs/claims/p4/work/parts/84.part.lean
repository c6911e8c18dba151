/-! SUMS AND TESTS: a PART -/
def NF (dp : Nat) (MX MY : Mem) : Prop := (¬ isT (gA MY 21 (dp - 1)) ∨ gA MY 23 (dp - 1) = 0 ∨ (¬ gI MX 386 = 281 ∧ ¬ gI MX 386 = 91 ∧ ¬ gI MX 386 = 282)) ∧ ¬ (2 : Int32) ≤ gA MY 22 (dp - 1)
def DP (op : Nat) : Nat := 1 + 7 * (7 - op)
def QPart (dp : Nat) (MY : Mem) (MX' MY' : Mem) : Prop := gA MY' 22 (dp - 1) = gA MY 22 (dp - 1) ∧ gA MY' 23 (dp - 1) = 0
def QSum (dp : Nat) (MY : Mem) (MX' MY' : Mem) : Prop := QPart dp MY MX' MY' ∧ ¬ ari (gI MX' 386)
def QFact (dp : Nat) (MX' MY' : Mem) : Prop := gA MY' 22 (dp - 1) = 2 ∨ (gA MY' 22 (dp - 1) = 1 ∧ ¬ ari (gI MX' 386))
def QTest (dp : Nat) (MX' MY' : Mem) : Prop := QFact dp MX' MY' ∧ ¬ gI MX' 386 = 280 ∧ ¬ gI MX' 386 = 279
def SPart (n0 L b c0 op : Nat) (P : Mem → Prop) (g : Mem → Option (Int32 × Mem)) : Prop := ∀ s qf dp m bs pw lx ly MX MY, En L s qf b c0 dp m bs op pw lx ly MX MY → P MX → NF dp MX MY → m ≤ 30 * op + 6 → Ok n0 L s qf b c0 dp m bs op pw lx ly MX MY 0 6 (DP op) false (QPart dp MY) (g MX) ∨ Bad n0 s qf b c0 dp m ly MX MY (g MX)
def SSum (n0 L b c0 op : Nat) (g : Mem → Option (Int32 × Mem)) : Prop := ∀ s qf dp m bs pw lx ly MX MY, En L s qf b c0 dp m bs op pw lx ly MX MY → NF dp MX MY → (m = bs ∨ rkI (gA MY 26 (m - 1)) < 5) → m ≤ 30 * op + 4 → Ok n0 L s qf b c0 dp m bs op pw lx ly MX MY 2 5 (DP op + 2) false (QSum dp MY) (g MX) ∨ Bad n0 s qf b c0 dp m ly MX MY (g MX)
def TPre (dp : Nat) (MY : Mem) : Prop := isT (gA MY 21 (dp - 1)) ∧ gA MY 22 (dp - 1) = 0 ∧ gA MY 23 (dp - 1) = 1
def STest (n0 L b c0 op : Nat) (g : Mem → Option (Int32 × Mem)) : Prop := ∀ s qf dp m bs pw lx ly MX MY, En L s qf b c0 dp m bs op pw lx ly MX MY → TPre dp MY → m = bs → m ≤ 30 * op → Ok n0 L s qf b c0 dp m bs op pw lx ly MX MY (5 + (7 - op)) 1 (DP op + 5) true (QTest dp) (g MX) ∨ Bad n0 s qf b c0 dp m ly MX MY (g MX)
section PT
variable {n0 L s qf b c0 dp m bs op pw : Nat} {lx : List Int32} {ly : List (Int32 × Int32)} {MX MY : Mem}
theorem xgo1 {c : Int32} {M M' : Mem} (h7 : op < 7) (hk : gI M 386 = c) (ha : fX8_advance n0 M = some M') : fX3_goIn n0 c (nI op) M = some (1, M') := by
  unfold fX3_goIn
  exact eq_t hk (eq_t (nI_lt (b := 7) h7 (by decide)) (eq_b ha rfl))
theorem xgo5 {c : Int32} {M : Mem} (h7 : op = 7) (hk : gI M 386 = c) : fX3_goIn n0 c (nI op) M = some (0, sI (sI M 391 5) 392 (gI M 387)) := by
  unfold fX3_goIn
  exact eq_t hk (eq_f (by rw [h7]; decide) (eq_b xfail (eq_t (Or.inl rfl) rfl)))
theorem xgoN {c x : Int32} {M : Mem} (hk : ¬ gI M 386 = c) : fX3_goIn n0 c x M = some (0, sI (sI M 391 1) 392 (gI M 388)) := by
  unfold fX3_goIn
  exact eq_f hk (eq_b xfailH (eq_t (Or.inl rfl) rfl))
theorem openEn {kk : Int32} {s0 : Nat} {MX0 M0 : Mem} (g : Mem → Mem) (hn : 1601 ≤ n0) (h : En L s qf b c0 dp m bs op pw lx ly MX MY) (hP0 : PR L s0 MX0 M0) (hs0 : s ≤ s0) (fx0 : FI 386 392 MX MX0) (hY0 : YP b c0 dp m bs op [] ly M0) (f0 : FP b (c0 + ly.length) dp m MY M0) (hs : s0 < L) (h7 : op < 7) (g1 : ∀ M k, gI (g M) k = gI M k) (g2 : ∀ M, gL (g M) = gL M) (g3 : ∀ M a, a ≠ 24 → gA (g M) a = gA M a) (g4 : ∀ M, FP b (c0 + ly.length) dp m M (g M)) :
    ∃ MX1 M' s1, fX8_advance n0 MX0 = some MX1 ∧ fX12_opens n0 kk M0 = some M' ∧ s0 < s1 ∧ gI M' 8 = 0 ∧ gI M' 41 = nI (dp + 1) ∧ En L s1 qf b c0 (dp + 1) m m (op + 1) pw lx ly MX1 (sI (g M') 45 0) ∧ FPx qf MX MX1 ∧ FP b (c0 + ly.length) dp m MY (sI (g M') 45 0) ∧ gA M' 21 dp = kk ∧ gA M' 22 dp = 0 ∧ gA M' 23 dp = 1 ∧ gA M' 22 (dp - 1) = gA M0 22 (dp - 1) ∧ gA M' 23 (dp - 1) = gA M0 23 (dp - 1) := by
  obtain ⟨hP, h257, hq, hxl, hYP, h258, hdo, hmp, hcs, hll, h45⟩ := h
  obtain ⟨MX1, M', s1, ax, eo, hs1, hP1, yp, e1, e2, e3, fx, fp, e4, e5⟩ := opP (n0 := n0) (kk := kk) hn hP0 hs hY0 h7 hdo
  have hfx : FI 386 392 MX MX1 := fx0.tr fx
  have hFP : FP b (c0 + ly.length) dp m MY (sI (g M') 45 0) := ((f0.tr fp).tr (g4 M')).i (by unfold pInt; omega)
  refine ⟨MX1, M', s1, ax, eo, hs1, hP1.f8, yp.2.2.1, ⟨?_, ?_, hq, ?_, ?_, ⟨?_, ?_⟩, by omega, hmp, by omega, hll, gI_at⟩, hfx.p, hFP, e1, e2, e3, e4, e5⟩
  · exact hP1.yw (fun k hk => by rw [gI_ne (by omega), g1]) (by show gL (g M') 7 = _; rw [g2]) (by show gA (g M') 1 = _; rw [g3 _ _ (by decide)])
  · rw [hfx.R]; exact h257
  · exact hxl.fi hfx hq
  · exact yp.cong (fun k hk => by rw [gI_ne (by omega), g1]) (fun a ha => by show gA (g M') a = _; rw [g3 _ _ (by omega)])
  · rw [hfx.2 258 (by omega), h258.1, hFP.1 35 (by unfold pInt; omega)]
  · rw [hfx.2 258 (by omega)]; exact h258.2
theorem parP {rec : Nat → Int32 → Int32 → Mem → Option (Int32 × Mem)} (hn : 1601 ≤ n0) (hSum : op < 7 → SSum n0 L b c0 (op + 1) (fun M => rec 0 (nI (op + 1)) 0 M)) (h : En L s qf b c0 dp m bs op pw lx ly MX MY) (hk : gI MX 386 = 40) (hN : NF dp MX MY) (hm : m ≤ 30 * op + 6) {rx : Option (Int32 × Mem)} (hrx : rx = (fX3_goIn n0 (40 : Int32) (nI op) MX).bind fun z217 => if z217.1 = 0 then some ((0 : Int32), z217.2) else (rec 0 (nI op + (1 : Int32)) (0 : Int32) z217.2).bind fun z227 => if z227.1 = 0 then some ((0 : Int32), z227.2) else (fX8_skip n0 (41 : Int32) z227.2).bind fun z239 => if z239.1 = 0 then some ((0 : Int32), z239.2) else some ((1 : Int32), z239.2)) :
    Ok n0 L s qf b c0 dp m bs op pw lx ly MX MY 0 6 (DP op) false (QPart dp MY) rx ∨ Bad n0 s qf b c0 dp m ly MX MY rx := by
  have hh := h
  obtain ⟨hP, h257, hq, hxl, hYP, h258, hdo, hmp, hcs, hll, h45⟩ := h
  have hb : ¬ gI MX 386 = 258 := by rw [hk]; decide
  have hs := hP.2.1.2.2.2.2.lt (by rw [hk]; decide)
  have hdp := hYP.2.2.2.1
  have hop7 : op ≤ 7 := hYP.2.2.2.2.2.2.2.2.2.2.2.2
  have hP1 : PR L s MX (sA MY 23 (dp - 1) 0) := hP.ar (by decide)
  have hY1 : YP b c0 dp m bs op [] ly (sA MY 23 (dp - 1) 0) := hYP.cong (fun k _ => rfl) (fun a ha => gA_sA_ne (by omega))
  have f1 : FP b (c0 + ly.length) dp m MY (sA MY 23 (dp - 1) 0) := FP.r.a (by unfold pReg; omega)
  have hy : fX12_operand n0 MY = (fX12_opens n0 2 (sA MY 23 (dp - 1) 0)).bind fun z => some (0, z) := by rw [yop171 hP hb hYP.2.2.1 hdp hN.1, y171o hP1 hk]
  by_cases h7 : op = 7
  · right
    refine badOp (k := 5) (r := 0) (p := nI s) (M1 := sA MY 23 (dp - 1) 0) hh (by decide) (by decide) (Or.inl rfl) ?_ f1 (hy.trans (eq_b (opF hP1 (by show gI MY 42 = 7; rw [hYP.2.2.2.2.2.2.2.2.2.2.2.1, h7]; rfl)) rfl))
    rw [hrx]
    refine eq_b (xgo5 h7 hk) (eq_t rfl ?_)
    show some ((0 : Int32), sI (sI MX 391 5) 392 (gI MX 387)) = _
    rw [hP.st]
    rfl
  have h7' : op < 7 := by omega
  obtain ⟨MX1, M', s1, ax, eo, hs1, m8, m41, hE1, fx1, fp1, k21, k22, k23, p22, p23⟩ := openEn (kk := 2) (fun M => M) hn hh hP1 (Nat.le_refl s) FI.r hY1 f1 hs h7' (fun _ _ => rfl) (fun _ => rfl) (fun _ _ _ => rfl) (fun _ => FP.r)
  have hw1 : ∀ w, YLp n0 (w + 1) MY = YLp n0 w (sI M' 45 0) := fun w => ylop h45 (Or.inl rfl) (hy.trans (eq_b eo rfl)) m8
  have xg := xgo1 (n0 := n0) h7' hk ax
  have hsum := hSum h7' s1 qf (dp + 1) m m pw lx ly MX1 (sI M' 45 0) hE1 ⟨Or.inl (by rw [Nat.add_sub_cancel]; show ¬ isT (gA M' 21 dp); rw [k21]; decide), by rw [Nat.add_sub_cancel]; show ¬ (2 : Int32) ≤ gA M' 22 dp; rw [k22]; decide⟩ (Or.inl rfl) (by omega)
  rcases hsum with ⟨MX2, MY2, s2, k2, δ, R, ly2, er, hS, hQ⟩ | hB
  rotate_left
  · right
    refine badUp (k1 := 1) hw1 (by omega) fx1 fp1 (Nat.le_refl _) (by omega) (Nat.le_refl _) hB (fun M e => ?_)
    rw [hrx]
    exact eq_b xg (eq_f i10 (eq_b (by rw [nI_1]; exact e) (eq_t rfl rfl)))
  have er' : rec 0 (nI op + (1 : Int32)) 0 MX1 = some (1, MX2) := by rw [nI_1]; exact er
  have hSS := hS
  obtain ⟨hlen1, hlen2, hlen3, hlen4⟩ := hS.len hE1
  obtain ⟨a1, a2, a3, a4, a5, a6, a7, a8, a9, a10, a11, a12, a13, a14, a15, a16⟩ := hS
  rw [show QSum (dp + 1) (sI M' 45 0) MX2 MY2 = (((gA MY2 22 dp = gA M' 22 dp) ∧ gA MY2 23 dp = 0) ∧ ¬ ari (gI MX2 386)) from rfl] at hQ
  have f21 : gA MY2 21 dp = 2 := (a15.2.1 21 dp (by unfold pReg; omega)).trans k21
  have fpA : FP b (c0 + ly.length) dp m MY MY2 := fp1.tr (a15.wk (Nat.le_refl _) (by omega) (Nat.le_refl _))
  have hwA : ∀ w, YLp n0 (w + (k2 + 1)) MY = YLp n0 w MY2 := fun w => by rw [← Nat.add_assoc, hw1, a1]
  have b25 : gA MY2 25 (dp - 1) = nI bs := (fpA.2.1 25 _ (by unfold pReg; omega)).trans hYP.2.2.2.2.1
  by_cases hc : gI MX2 386 = 41
  · obtain ⟨MX3, MY3, s3, sk, hw3, hs3, hP3, yp3, g45, fx3, fp3, g22, g23⟩ := closeP (kf := 2) (bs := bs) hn hE1 hSS (by decide) f21 (Or.inl rfl) hc (Or.inl (by decide)) hdp.1 b25 hYP.2.2.2.2.2.1
    left
    refine ⟨MX3, MY3, s3, 1 + (k2 + 1), δ, [], ly ++ δ, ?_, ⟨fun w => ?_, by omega, by omega, hP3, a5.fi fx3 hq, by simpa [xtra] using yp3, by simp [fl], fun o ho => by simp at ho, by simp, ?_, g45, fun st hst => a12 st (by unfold DP at hst ⊢; omega), a13, (fx1.tr a14).tr fx3.p, fpA.tr fp3, by simp⟩, ?_, ?_⟩
    · rw [hrx]
      exact eq_b xg (eq_f i10 (eq_b er' (eq_f i10 (eq_b sk (eq_f i10 rfl)))))
    · rw [← Nat.add_assoc, hwA, hw3]
    · omega
    · rw [g22, if_neg (by decide), a15.2.1 22 (dp - 1) (by unfold pReg; omega)]
      show gA M' 22 (dp - 1) = _
      rw [p22, gA_sA_ne (by decide)]
    · rw [g23, a15.2.1 23 (dp - 1) (by unfold pReg; omega)]
      show gA M' 23 (dp - 1) = _
      rw [p23, gA_sA, if_pos rfl, if_pos rfl]
  · right
    obtain ⟨sk, go⟩ := endBad (n0 := n0) (dq := dp + 1) (kf := 2) a4 (by rw [Nat.add_sub_cancel]; exact f21) (by decide) hc (Or.inl hQ.2) (Or.inl (by decide)) a6.2.2.1 a6.2.2.2.1
    refine badGo hwA (by omega) hlen4 (fx1.tr a14) fpA a11 ?_ go
    rw [hrx]
    exact eq_b xg (eq_f i10 (eq_b er' (eq_f i10 (eq_b sk (eq_t rfl rfl)))))
end PT
