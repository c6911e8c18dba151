/-! SUMS AND TESTS: BOTH, TEST; all of them by the depth of the class's recursion -/
def astep (k : Int32) : Int32 := if k = 280 then -18 else 0
def ostep (k : Int32) : Int32 := if k = 279 then -19 else 0
theorem astep_k {k : Int32} (h : ¬ astep k = 0) : k = 280 := by
  unfold astep at h
  by_cases g : k = 280
  · exact g
  · rw [if_neg g] at h; exact absurd rfl h
theorem ostep_k {k : Int32} (h : ¬ ostep k = 0) : k = 279 := by
  unfold ostep at h
  by_cases g : k = 279
  · exact g
  · rw [if_neg g] at h; exact absurd rfl h
theorem gb_both {n0 : Nat} {rec : Nat → Int32 → Int32 → Mem → Option (Int32 × Mem)} {x1 : Int32} (k : Int32 → Int32 → Mem → Option (Int32 × Mem)) (x2 : Int32) (M : Mem) : bX3_readBoth_12 n0 rec k x1 x2 M = gBody n0 astep (fun M => rec 7 x1 0 M) k x1 x2 M := by
  unfold bX3_readBoth_12 gBody
  by_cases g1 : (1600 : Int32) ≤ x2
  · rw [if_pos g1, if_pos g1]
  rw [if_neg g1, if_neg g1]
  by_cases g2 : gI M 386 = 280
  · rw [if_pos g2, show astep (gI M 386) = -18 from if_pos g2]
    exact (if_neg (by decide)).symm
  · rw [if_neg g2, show astep (gI M 386) = 0 from if_neg g2]
    exact (if_pos rfl).symm
theorem gb_test {n0 : Nat} {rec : Nat → Int32 → Int32 → Mem → Option (Int32 × Mem)} {x1 : Int32} (k : Int32 → Int32 → Mem → Option (Int32 × Mem)) (x2 : Int32) (M : Mem) : bX3_readTest_12 n0 rec k x1 x2 M = gBody n0 ostep (fun M => rec 6 x1 0 M) k x1 x2 M := by
  unfold bX3_readTest_12 gBody
  by_cases g1 : (1600 : Int32) ≤ x2
  · rw [if_pos g1, if_pos g1]
  rw [if_neg g1, if_neg g1]
  by_cases g2 : gI M 386 = 279
  · rw [if_pos g2, show ostep (gI M 386) = -19 from if_pos g2]
    exact (if_neg (by decide)).symm
  · rw [if_neg g2, show ostep (gI M 386) = 0 from if_neg g2]
    exact (if_pos rfl).symm
/-- the phase of the last frame behind a FACT -/
def PhF (dp : Nat) (kd : Int32) (MY' : Mem) : Prop := gA MY' 22 (dp - 1) = 2 ∨ (gA MY' 22 (dp - 1) = 1 ∧ ¬ ari kd)
theorem PhF.ne {dp : Nat} {kd : Int32} {M : Mem} (h : PhF dp kd M) : ¬ gA M 22 (dp - 1) = 0 := by
  rcases h with z | z
  · rw [z]; decide
  · rw [z.1]; decide
theorem bothP {n0 L b c0 op : Nat} {rec : Nat → Int32 → Int32 → Mem → Option (Int32 × Mem)} (hn : 1601 ≤ n0) (hF : SFact n0 L b c0 op (fun M => rec 7 (nI op) 0 M)) : SBoth n0 L b c0 op (fun M => fX3_readBoth n0 rec (nI op) M) := by
  intro s qf dp m bs pw lx ly MX MY h hTP hoc hm
  have hbs := h.2.2.2.2.1.2.2.2.2.2.1
  have hop7 : op ≤ 7 := h.2.2.2.2.1.2.2.2.2.2.2.2.2.2.2.2.2
  have hdp := h.2.2.2.2.1.2.2.2.1
  show Ok n0 L s qf b c0 dp m bs op pw lx ly MX MY (4 + (7 - op)) 2 (DP op + 4) true (fun MX' MY' => QFact dp MX' MY' ∧ ¬ gI MX' 386 = 280) (fX3_readBoth n0 rec (nI op) MX) ∨ Bad n0 s qf b c0 dp m ly MX MY (fX3_readBoth n0 rec (nI op) MX)
  unfold fX3_readBoth fX3_readBoth_12
  rcases hF s qf dp m bs pw lx ly MX MY h hTP (by rcases hoc with q | q; exact Or.inl q; exact Or.inr (by omega)) (by omega) with ⟨MX1, MY1, s1, k1, δ, R, ly1, er, hS, hq⟩ | ⟨MXf, MYf, kk, er, hB⟩
  rotate_left
  · exact Or.inr ⟨MXf, MYf, kk, eq_b er (eq_t rfl rfl), hB⟩
  have key := binL (x1 := nI op) (rl := 4 + (7 - op)) (r := 2) (D := DP op + 4) (rl2 := 3 + (7 - op)) (r2 := 3) (D2 := DP op + 3) (ta := true) (tb := true) astep (fun _ => 41) (fun M => rec 7 (nI op) 0 M) (fun kd MYc => PhF dp kd MYc) (fun _ MY1 => TPre dp MY1 ∧ gA MY1 26 m = 41) (fun _ MX2 MY2 => QFact dp MX2 MY2) hn h
    (fun MXc MYc sc k δ R lyc hS hqc hst => by
      have hk := astep_k hst
      have hT1 : isT (gA MYc 21 (dp - 1)) := by
        rw [hS.2.2.2.2.2.2.2.2.2.2.2.2.2.2.1.2.1 21 (dp - 1) (by unfold pReg; omega)]
        exact hTP.1
      obtain ⟨MX1, MY1, s1, hN', e1, e2⟩ := nxL (least := 2) hn h hS (Or.inl hk) (by rw [if_pos hk]) (Nat.le_refl _) hT1 hqc.ne (by omega) hoc
      rw [if_pos hk] at hN'
      refine ⟨MX1, MY1, s1, hN', ⟨?_, e1, e2⟩, hN'.2.2.2.2.1⟩
      rw [hN'.2.2.2.2.2.1.2.1 21 (dp - 1) (by unfold pReg; omega)]
      exact hT1)
    (fun s1 lx1 ly1 MX1 MY1 hE _ hE2 => hF s1 qf dp (m + 1) bs (pw + 1) lx1 ly1 MX1 MY1 hE hE2.1 (Or.inr (by rw [Nat.add_sub_cancel, hE2.2]; decide)) (by omega))
    (fun MX1 MY1 MX2 MY2 hE2 _ hq2 => hq2)
    (fun k hk => ⟨by decide, by rw [astep_k hk]; decide, by decide, fun st => rfl⟩) (by decide) (by decide) (by omega) (Nat.le_refl _) n0 0 MX1 MY1 s1 k1 δ R ly1 (hS.wk (by omega) (by decide) (by omega)) hq (Nat.zero_le _) (by omega)
  have key2 : Ok n0 L s qf b c0 dp m bs op pw lx ly MX MY (4 + (7 - op)) 2 (DP op + 4) true (fun MX' MY' => QFact dp MX' MY' ∧ ¬ gI MX' 386 = 280) (loopN (gBody n0 astep (fun M => rec 7 (nI op) 0 M)) (fun _ _ _ => none) n0 (nI op) (nI 0) MX1) ∨ Bad n0 s qf b c0 dp m ly MX MY (loopN (gBody n0 astep (fun M => rec 7 (nI op) 0 M)) (fun _ _ _ => none) n0 (nI op) (nI 0) MX1) := by
    rcases key with ⟨A, B, C, D', E', F', G', q1, q2, q3, q4⟩ | q
    · refine Or.inl ⟨A, B, C, D', E', F', G', q1, q2, q3, fun g => ?_⟩
      rw [g] at q4
      exact absurd q4 (by decide)
    · exact Or.inr q
  refine Ok.nrm key2 (fun v M _ e => eq_b er (eq_f i10 ?_))
  rw [show (0 : Int32) = nI 0 from rfl, loop_ext1 (G := gBody n0 astep (fun M => rec 7 (nI op) 0 M)) (fun k x2 M => gb_both k x2 M) (fun k k' x2 M hk => gBody_k k k' x2 M hk)]
  exact e
theorem testP {n0 L b c0 op : Nat} {rec : Nat → Int32 → Int32 → Mem → Option (Int32 × Mem)} (hn : 1601 ≤ n0) (hF : SBoth n0 L b c0 op (fun M => rec 6 (nI op) 0 M)) : STest n0 L b c0 op (fun M => fX3_readTest n0 rec (nI op) M) := by
  intro s qf dp m bs pw lx ly MX MY h hTP hoc hm
  have hbs := h.2.2.2.2.1.2.2.2.2.2.1
  have hop7 : op ≤ 7 := h.2.2.2.2.1.2.2.2.2.2.2.2.2.2.2.2.2
  have hdp := h.2.2.2.2.1.2.2.2.1
  show Ok n0 L s qf b c0 dp m bs op pw lx ly MX MY (5 + (7 - op)) 1 (DP op + 5) true (QTest dp) (fX3_readTest n0 rec (nI op) MX) ∨ Bad n0 s qf b c0 dp m ly MX MY (fX3_readTest n0 rec (nI op) MX)
  unfold fX3_readTest fX3_readTest_12
  rcases hF s qf dp m bs pw lx ly MX MY h hTP (Or.inl hoc) (by omega) with ⟨MX1, MY1, s1, k1, δ, R, ly1, er, hS, hq⟩ | ⟨MXf, MYf, kk, er, hB⟩
  rotate_left
  · exact Or.inr ⟨MXf, MYf, kk, eq_b er (eq_t rfl rfl), hB⟩
  have key := binL (x1 := nI op) (rl := 5 + (7 - op)) (r := 1) (D := DP op + 5) (rl2 := 4 + (7 - op)) (r2 := 2) (D2 := DP op + 4) (ta := true) (tb := true) ostep (fun _ => 42) (fun M => rec 6 (nI op) 0 M) (fun kd MYc => PhF dp kd MYc ∧ ¬ kd = 280) (fun _ MY1 => TPre dp MY1 ∧ gA MY1 26 m = 42) (fun _ MX2 MY2 => QFact dp MX2 MY2 ∧ ¬ gI MX2 386 = 280) hn h
    (fun MXc MYc sc k δ R lyc hS hqc hst => by
      have hk := ostep_k hst
      have hT1 : isT (gA MYc 21 (dp - 1)) := by
        rw [hS.2.2.2.2.2.2.2.2.2.2.2.2.2.2.1.2.1 21 (dp - 1) (by unfold pReg; omega)]
        exact hTP.1
      have hne : ¬ gI MXc 386 = 280 := hqc.2
      obtain ⟨MX1, MY1, s1, hN', e1, e2⟩ := nxL (least := 1) hn h hS (Or.inr hk) (by rw [if_neg hne]) (Nat.le_refl _) hT1 hqc.1.ne (by omega) (Or.inl hoc)
      rw [if_neg hne] at hN'
      refine ⟨MX1, MY1, s1, hN', ⟨?_, e1, e2⟩, hN'.2.2.2.2.1⟩
      rw [hN'.2.2.2.2.2.1.2.1 21 (dp - 1) (by unfold pReg; omega)]
      exact hT1)
    (fun s1 lx1 ly1 MX1 MY1 hE _ hE2 => hF s1 qf dp (m + 1) bs (pw + 1) lx1 ly1 MX1 MY1 hE hE2.1 (Or.inr (by rw [Nat.add_sub_cancel, hE2.2]; decide)) (by omega))
    (fun MX1 MY1 MX2 MY2 hE2 _ hq2 => hq2)
    (fun k hk => ⟨by decide, by rw [ostep_k hk]; decide, by decide, fun st => rfl⟩) (by decide) (by decide) (by omega) (Nat.le_refl _) n0 0 MX1 MY1 s1 k1 δ R ly1 (hS.wk (by omega) (by decide) (by omega)) hq (Nat.zero_le _) (by omega)
  have key2 : Ok n0 L s qf b c0 dp m bs op pw lx ly MX MY (5 + (7 - op)) 1 (DP op + 5) true (QTest dp) (loopN (gBody n0 ostep (fun M => rec 6 (nI op) 0 M)) (fun _ _ _ => none) n0 (nI op) (nI 0) MX1) ∨ Bad n0 s qf b c0 dp m ly MX MY (loopN (gBody n0 ostep (fun M => rec 6 (nI op) 0 M)) (fun _ _ _ => none) n0 (nI op) (nI 0) MX1) := by
    rcases key with ⟨A, B, C, D', E', F', G', q1, q2, q3, q4⟩ | q
    · refine Or.inl ⟨A, B, C, D', E', F', G', q1, q2, q3.1, q3.2, fun g => ?_⟩
      rw [g] at q4
      exact absurd q4 (by decide)
    · exact Or.inr q
  refine Ok.nrm key2 (fun v M _ e => eq_b er (eq_f i10 ?_))
  rw [show (0 : Int32) = nI 0 from rfl, loop_ext1 (G := gBody n0 ostep (fun M => rec 6 (nI op) 0 M)) (fun k x2 M => gb_test k x2 M) (fun k k' x2 M hk => gBody_k k k' x2 M hk)]
  exact e
/-- everything that the depth d is enough for -/
def AllS (n0 L b c0 d : Nat) : Prop := ∀ op, op ≤ 7 →
  (9 * (8 - op) ≤ d → STest n0 L b c0 op (fun M => recX3 n0 d 5 (nI op) 0 M)) ∧
  (9 * (8 - op) ≤ d + 1 → SBoth n0 L b c0 op (fun M => recX3 n0 d 6 (nI op) 0 M)) ∧
  (9 * (8 - op) ≤ d + 2 → SFact n0 L b c0 op (fun M => recX3 n0 d 7 (nI op) 0 M)) ∧
  (9 * (8 - op) ≤ d + 3 → SCmp n0 L b c0 op (fun M => recX3 n0 d 8 (nI op) 0 M)) ∧
  (9 * (8 - op) ≤ d + 4 → SSum n0 L b c0 op (fun M => recX3 n0 d 0 (nI op) 0 M)) ∧
  (9 * (8 - op) ≤ d + 5 → SProd n0 L b c0 op (fun M => recX3 n0 d 1 (nI op) 0 M)) ∧
  (9 * (8 - op) ≤ d + 6 → SPart n0 L b c0 op (fun _ => True) (fun M => recX3 n0 d 2 (nI op) 0 M)) ∧
  (9 * (8 - op) ≤ d + 7 → ∀ x2, SPart n0 L b c0 op (fun M => (gI M 386 = 283 ∧ x2 = -12) ∨ (gI M 386 = 284 ∧ x2 = -13)) (fun M => recX3 n0 d 3 (nI op) x2 M)) ∧
  (9 * (8 - op) ≤ d + 7 → SPart n0 L b c0 op (fun M => gI M 386 = 278) (fun M => recX3 n0 d 4 (nI op) 0 M))
theorem allS {n0 L b c0 : Nat} (hn : 1601 ≤ n0) : ∀ d, AllS n0 L b c0 d
  | 0 => fun op ho => ⟨fun h => by omega, fun h => by omega, fun h => by omega, fun h => by omega, fun h => by omega, fun h => by omega, fun h => by omega, fun h => by omega, fun h => by omega⟩
  | d + 1 => by
    have ih := allS (n0 := n0) (L := L) (b := b) (c0 := c0) hn d
    intro op ho
    refine ⟨fun h => ?_, fun h => ?_, fun h => ?_, fun h => ?_, fun h => ?_, fun h => ?_, fun h => ?_, fun h x2 => ?_, fun h => ?_⟩
    · exact testP (rec := recX3 n0 d) hn ((ih op ho).2.1 (by omega))
    · exact bothP (rec := recX3 n0 d) hn ((ih op ho).2.2.1 (by omega))
    · exact factP (rec := recX3 n0 d) hn ((ih op ho).2.2.2.1 (by omega)) (fun h7 => (ih (op + 1) (by omega)).1 (by omega)) (fun h7 => (ih (op + 1) (by omega)).2.2.1 (by omega))
    · exact cmpP (rec := recX3 n0 d) hn ((ih op ho).2.2.2.2.1 (by omega))
    · exact sumP (rec := recX3 n0 d) hn ((ih op ho).2.2.2.2.2.1 (by omega))
    · exact prodP (rec := recX3 n0 d) hn ((ih op ho).2.2.2.2.2.2.1 (by omega))
    · exact partP (rec := recX3 n0 d) hn (fun h7 => (ih (op + 1) (by omega)).2.2.2.2.1 (by omega)) ((ih op ho).2.2.2.2.2.2.2.1 (by omega)) ((ih op ho).2.2.2.2.2.2.2.2 (by omega))
    · exact pairP (rec := recX3 n0 d) hn (fun h7 => (ih (op + 1) (by omega)).2.2.2.2.1 (by omega))
    · exact choiceP (rec := recX3 n0 d) hn (fun h7 => (ih (op + 1) (by omega)).2.2.2.2.1 (by omega)) (fun h7 => (ih (op + 1) (by omega)).1 (by omega))
