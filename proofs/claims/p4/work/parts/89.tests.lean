/-! SUMS AND TESTS: FACT, BOTH, TEST -/
def cstep (k : Int32) : Int32 := if k = 60 then -15 else if k = 61 then -17 else if k = 62 then -16 else 0
theorem xcstep {n0 : Nat} {M : Mem} : fX3_comparisonStep n0 M = some (cstep (gI M 386), M) := by
  unfold fX3_comparisonStep cstep
  by_cases g1 : gI M 386 = 60
  · rw [if_pos g1, if_pos g1]
  rw [if_neg g1, if_neg g1]
  by_cases g2 : gI M 386 = 61
  · rw [if_pos g2, if_pos g2]
  rw [if_neg g2, if_neg g2]
  by_cases g3 : gI M 386 = 62
  · rw [if_pos g3, if_pos g3]
  rw [if_neg g3, if_neg g3]
theorem cstep_k {k : Int32} (h : ¬ cstep k = 0) : k = 60 ∨ k = 62 ∨ k = 61 := by
  unfold cstep at h
  by_cases g1 : k = 60
  · exact Or.inl g1
  rw [if_neg g1] at h
  by_cases g2 : k = 61
  · exact Or.inr (Or.inr g2)
  rw [if_neg g2] at h
  by_cases g3 : k = 62
  · exact Or.inr (Or.inl g3)
  rw [if_neg g3] at h
  exact absurd rfl h
def SCmp (n0 L b c0 op : Nat) (g : Mem → Option (Int32 × Mem)) : Prop := ∀ s qf dp m bs pw lx ly MX MY, En L s qf b c0 dp m bs op pw lx ly MX MY → isT (gA MY 21 (dp - 1)) → gA MY 22 (dp - 1) = 0 → (¬ gI MX 386 = 281 ∧ ¬ gI MX 386 = 91 ∧ ¬ gI MX 386 = 282) → (m = bs ∨ rkI (gA MY 26 (m - 1)) < 5) → m ≤ 30 * op + 3 → Ok n0 L s qf b c0 dp m bs op pw lx ly MX MY 3 4 (DP op + 3) true (QFact dp) (g MX) ∨ Bad n0 s qf b c0 dp m ly MX MY (g MX)
def SFact (n0 L b c0 op : Nat) (g : Mem → Option (Int32 × Mem)) : Prop := ∀ s qf dp m bs pw lx ly MX MY, En L s qf b c0 dp m bs op pw lx ly MX MY → TPre dp MY → (m = bs ∨ rkI (gA MY 26 (m - 1)) < 5) → m ≤ 30 * op + 2 → Ok n0 L s qf b c0 dp m bs op pw lx ly MX MY (3 + (7 - op)) 3 (DP op + 3) true (QFact dp) (g MX) ∨ Bad n0 s qf b c0 dp m ly MX MY (g MX)
def SBoth (n0 L b c0 op : Nat) (g : Mem → Option (Int32 × Mem)) : Prop := ∀ s qf dp m bs pw lx ly MX MY, En L s qf b c0 dp m bs op pw lx ly MX MY → TPre dp MY → (m = bs ∨ rkI (gA MY 26 (m - 1)) < 2) → m ≤ 30 * op + 1 → Ok n0 L s qf b c0 dp m bs op pw lx ly MX MY (4 + (7 - op)) 2 (DP op + 4) true (fun MX' MY' => QFact dp MX' MY' ∧ ¬ gI MX' 386 = 280) (g MX) ∨ Bad n0 s qf b c0 dp m ly MX MY (g MX)
theorem cmpP {n0 L b c0 op : Nat} {rec : Nat → Int32 → Int32 → Mem → Option (Int32 × Mem)} (hn : 1601 ≤ n0) (hS0 : SSum n0 L b c0 op (fun M => rec 0 (nI op) 0 M)) : SCmp n0 L b c0 op (fun M => fX3_readComparison n0 rec (nI op) M) := by
  intro s qf dp m bs pw lx ly MX MY h hT hph hkd hoc hm
  have hop7 : op ≤ 7 := h.2.2.2.2.1.2.2.2.2.2.2.2.2.2.2.2.2
  show Ok n0 L s qf b c0 dp m bs op pw lx ly MX MY 3 4 (DP op + 3) true (QFact dp) (fX3_readComparison n0 rec (nI op) MX) ∨ Bad n0 s qf b c0 dp m ly MX MY (fX3_readComparison n0 rec (nI op) MX)
  unfold fX3_readComparison
  rcases hS0 s qf dp m bs pw lx ly MX MY h ⟨Or.inr (Or.inr hkd), by rw [hph]; decide⟩ hoc (by omega) with ⟨MX1, MY1, s1, k1, δ, R, ly1, er, hS, hq⟩ | ⟨MXf, MYf, kk, er, hB⟩
  rotate_left
  · exact Or.inr ⟨MXf, MYf, kk, eq_b er (eq_t rfl rfl), hB⟩
  have hlen := hS.len h
  have hSS := hS
  obtain ⟨a1, a2, a3, a4, a5, a6, a7, a8, a9, a10, a11, a12, a13, a14, a15, a16⟩ := hS
  have hT1 : isT (gA MY1 21 (dp - 1)) := by
    have hdp := a6.2.2.2.1
    rw [a15.2.1 21 (dp - 1) (by unfold pReg; omega)]; exact hT
  have hph1 : gA MY1 22 (dp - 1) = 0 := hq.1.1.trans hph
  by_cases hc : cstep (gI MX1 386) = 0
  · right
    refine badGo (p := gI MX1 388) a1 a2 hlen.2.2.2 a14 a15 a11 (eq_b er (eq_f i10 (eq_b xcstep (eq_t hc (eq_b xfailH (eq_t (Or.inl rfl) rfl)))))) ?_
    by_cases h8 : gI MX1 386 = 258
    · exact ygoB a4 h8
    · rw [a4.pl h8]
      refine ygoT0 a4 h8 hq.2 ⟨fun e => ?_, fun e => ?_, fun e => ?_⟩ hT1 hph1 a6.2.2.1 a6.2.2.2.1 <;> (rw [e] at hc; revert hc; decide)
  have hk := cstep_k hc
  obtain ⟨MX2, MY2, s2, hN, e1, e2⟩ := nxC hn h hSS hk (Nat.le_refl _) hT1 hph1 (by omega) hoc
  have hNN := hN
  obtain ⟨n1, n2, n3, n4, n5, n6, n7⟩ := hN
  rcases hS0 s2 qf dp (m + 1) bs (pw + 1) _ _ MX2 MY2 n4 ⟨Or.inr (Or.inl (e2.trans hq.1.2)), by rw [e1]; decide⟩ (Or.inr (by rw [Nat.add_sub_cancel, n5]; rcases hk with q | q | q <;> rw [q] <;> decide)) (by omega) with ⟨MX3, MY3, s3, k3, δ2, R2, ly3, er3, hS3, hq3⟩ | hB
  · left
    have hprop : ¬ cmOf (gI MX1 386) = 43 ∧ ex1 (cmOf (gI MX1 386), 0) = [cstep (gI MX1 386)] ∧ 4 ≤ rkI (cmOf (gI MX1 386)) ∧ ∀ st : List Bool, ty1 (cmOf (gI MX1 386), 0) (false :: false :: st) = some (true :: st) := by
      rcases hk with q | q | q <;> rw [q] <;> exact ⟨by decide, by decide, by decide, fun st => rfl⟩
    obtain ⟨ead, hS4⟩ := comb (rlc := 3) (tc := true) (x := cstep (gI MX1 386)) hn h (hSS.wk (rl' := 3) (r' := 4) (D' := DP op + 3) (by decide) (by decide) (by omega)) hNN hS3 hprop.1 hprop.2.1 ⟨hprop.2.2.1, by decide⟩ (by decide) hprop.2.2.2 (Nat.le_refl _)
    refine ⟨_, MY3, s3, _, _, _, _, ?_, hS4, Or.inr ⟨hq3.1.1.trans e1, ?_⟩⟩
    · have e3 : fX3_add n0 (cstep (gI MX1 386)) MX3 = some (1, xAd qf (lx ++ exL δ ++ exL δ2).length (cstep (gI MX1 386)) MX3) := by
        unfold fX3_add
        exact eq_b ead rfl
      exact eq_b er (eq_f i10 (eq_b xcstep (eq_f hc (eq_b n1 (eq_b er3 (eq_f i10 (eq_b e3 (eq_f i10 rfl))))))))
    · have hq' := h.2.2.1
      have hg : gI (xAd qf (lx ++ exL δ ++ exL δ2).length (cstep (gI MX1 386)) MX3) 386 = gI MX3 386 := by
        unfold xAd
        rw [gI_ne (by omega)]
        rfl
      rw [hg]
      exact hq3.2
  · right
    have hl := List.length_append (as := ly) (bs := δ)
    refine badUp (k1 := 1 + k1) (fun w => by rw [← Nat.add_assoc, a1, n2]) (by omega) (a14.tr n7.p) (a15.tr n6) (by omega) (Nat.le_refl _) (by omega) hB (fun M e => ?_)
    exact eq_b er (eq_f i10 (eq_b xcstep (eq_f hc (eq_b n1 (eq_b e (eq_t rfl rfl))))))
/-- the memory behind a 'not' that is held back -/
theorem pushNot {n0 b c0 dp m bs op : Nat} {ly : List (Int32 × Int32)} {M : Mem} (h : YP b c0 dp m bs op [] ly M) (h7 : op < 7) (hm : m < 399) : fX12_holdsBack n0 43 (sI M 42 (nI (op + 1))) = some (yPush (sI M 42 (nI (op + 1))) m 43) ∧ YP b c0 dp (m + 1) bs (op + 1) [] ly (yPush (sI M 42 (nI (op + 1))) m 43) ∧ gA (yPush (sI M 42 (nI (op + 1))) m 43) 26 m = 43 := by
  obtain ⟨h1, h2, h3, h4, h5, h6, h7', h8, h9, h10, h11, h12, h13⟩ := h
  have e44 : gI (sI M 42 (nI (op + 1))) 44 = nI m := by rw [gI_ne (by decide)]; exact h7'
  refine ⟨?_, ⟨?_, h2, ?_, h4, ?_, by omega, ?_, trivial, by simp; omega, ?_, ?_, ?_, ?_⟩, ?_⟩
  · unfold fX12_holdsBack yPush
    refine eq_f (by rw [e44]; exact nI_in (by omega) (by decide)) (eq_n ?_)
    simp only [gI_sA, e44, nI_clamp (show m < 2 ^ 31 by omega), nI_1]
  · unfold yPush; rw [gI_ne (by decide)]; show gI (sI M 42 (nI (op + 1))) 34 = _; rw [gI_ne (by decide)]; exact h1
  · unfold yPush; rw [gI_ne (by decide)]; show gI (sI M 42 (nI (op + 1))) 41 = _; rw [gI_ne (by decide)]; exact h3
  · unfold yPush; show gA (sA (sI M 42 (nI (op + 1))) 26 m 43) 25 _ = _; rw [gA_sA_ne (by decide)]; exact h5
  · unfold yPush; rw [gI_at]; rfl
  · unfold yPush; rw [gI_ne (by decide)]; show gI (sI M 42 (nI (op + 1))) 33 = _; rw [gI_ne (by decide)]; exact h10
  · refine h11.cong (fun i _ => ⟨?_, ?_⟩)
    · unfold yPush; show gA (sA (sI M 42 (nI (op + 1))) 26 m 43) 16 _ = _; rw [gA_sA_ne (by decide)]; rfl
    · unfold yPush; show gA (sA (sI M 42 (nI (op + 1))) 26 m 43) 17 _ = _; rw [gA_sA_ne (by decide)]; rfl
  · unfold yPush; rw [gI_ne (by decide)]; show gI (sI M 42 (nI (op + 1))) 42 = _; rw [gI_at]; rfl
  · have : nots ([] : List Int32) = 0 := rfl
    omega
  · unfold yPush; show gA (sA (sI M 42 (nI (op + 1))) 26 m 43) 26 m = _; rw [gA_sA, if_pos rfl, if_pos rfl]
theorem factP {n0 L b c0 op : Nat} {rec : Nat → Int32 → Int32 → Mem → Option (Int32 × Mem)} (hn : 1601 ≤ n0) (hCmp : SCmp n0 L b c0 op (fun M => rec 8 (nI op) 0 M)) (hTest : op < 7 → STest n0 L b c0 (op + 1) (fun M => rec 5 (nI (op + 1)) 0 M)) (hFact : op < 7 → SFact n0 L b c0 (op + 1) (fun M => rec 7 (nI (op + 1)) 0 M)) : SFact n0 L b c0 op (fun M => fX3_readFact n0 rec (nI op) M) := by
  intro s qf dp m bs pw lx ly MX MY h hTP hoc hm
  have hh := h
  obtain ⟨hP, h257, hq, hxl, hYP, h258, hdo, hmp, hcs, hll, h45⟩ := h
  have hop7 : op ≤ 7 := hYP.2.2.2.2.2.2.2.2.2.2.2.2
  have hdp := hYP.2.2.2.1
  have hbg : ¬ gA MY 23 (dp - 1) = 0 := by rw [hTP.2.2]; decide
  have e42 : gI MY 42 = nI op := hYP.2.2.2.2.2.2.2.2.2.2.2.1
  have hL16 := hP.L16
  show Ok n0 L s qf b c0 dp m bs op pw lx ly MX MY (3 + (7 - op)) 3 (DP op + 3) true (QFact dp) (fX3_readFact n0 rec (nI op) MX) ∨ Bad n0 s qf b c0 dp m ly MX MY (fX3_readFact n0 rec (nI op) MX)
  unfold fX3_readFact
  by_cases k91 : gI MX 386 = 91
  · rw [if_pos k91]
    have hP1 : PR L s MX (sA MY 23 (dp - 1) 0) := hP.ar (by decide)
    have hY1 : YP b c0 dp m bs op [] ly (sA MY 23 (dp - 1) 0) := hYP.cong (fun k _ => rfl) (fun a ha => gA_sA_ne (by omega))
    have f1 : FP b (c0 + ly.length) dp m MY (sA MY 23 (dp - 1) 0) := FP.r.a (by unfold pReg; omega)
    have hy := yopBr (n0 := n0) hP k91 hYP.2.2.1 hdp hTP.1 hbg
    have hs := hP.2.1.2.2.2.2.lt (by rw [k91]; decide)
    by_cases h7 : op = 7
    · right
      refine badOp (k := 5) (r := 0) (p := nI s) (M1 := sA MY 23 (dp - 1) 0) hh (by decide) (by decide) (Or.inl rfl) ?_ f1 (hy.trans (eq_b (opF hP1 (by show gI MY 42 = 7; rw [e42, h7]; rfl)) rfl))
      refine eq_b (xgo5 h7 k91) (eq_t rfl ?_)
      show some ((0 : Int32), sI (sI MX 391 5) 392 (gI MX 387)) = _
      rw [hP.st]
      rfl
    have h7' : op < 7 := by omega
    obtain ⟨MX1, M', s1, ax, eo, hs1, m8, m41, hE1, fx1, fp1, k21, k22, k23, p22, p23⟩ := openEn (kk := 5) (fun M => M) hn hh hP1 (Nat.le_refl s) FI.r hY1 f1 hs h7' (fun _ _ => rfl) (fun _ => rfl) (fun _ _ _ => rfl) (fun _ => FP.r)
    have hw1 : ∀ w, YLp n0 (w + 1) MY = YLp n0 w (sI M' 45 0) := fun w => ylop h45 (Or.inl rfl) (hy.trans (eq_b eo rfl)) m8
    have xg := xgo1 (n0 := n0) h7' k91 ax
    have tp : TPre (dp + 1) (sI M' 45 0) := by
      unfold TPre
      rw [Nat.add_sub_cancel]
      show isT (gA M' 21 dp) ∧ gA M' 22 dp = 0 ∧ gA M' 23 dp = 1
      rw [k21, k22, k23]
      decide
    rcases hTest h7' s1 qf (dp + 1) m m pw lx ly MX1 (sI M' 45 0) hE1 tp rfl (by omega) with ⟨MX2, MY2, s2, k2, δ, R, ly2, er, hS, hQ⟩ | hB
    rotate_left
    · right
      refine badUp (k1 := 1) hw1 (by omega) fx1 fp1 (Nat.le_refl _) (by omega) (Nat.le_refl _) hB (fun M e => ?_)
      exact eq_b xg (eq_f i10 (eq_b (by rw [nI_1]; exact e) (eq_t rfl rfl)))
    have er' : rec 5 (nI op + (1 : Int32)) 0 MX1 = some (1, MX2) := by rw [nI_1]; exact er
    have hSS := hS
    obtain ⟨hlen1, hlen2, hlen3, hlen4⟩ := hS.len hE1
    obtain ⟨a1, a2, a3, a4, a5, a6, a7, a8, a9, a10, a11, a12, a13, a14, a15, a16⟩ := hS
    have hQ1 : gA MY2 22 dp = 2 ∨ (gA MY2 22 dp = 1 ∧ ¬ ari (gI MX2 386)) := hQ.1
    have f21 : gA MY2 21 dp = 5 := (a15.2.1 21 dp (by unfold pReg; omega)).trans k21
    have fpA : FP b (c0 + ly.length) dp m MY MY2 := fp1.tr (a15.wk (Nat.le_refl _) (by omega) (Nat.le_refl _))
    have hwA : ∀ w, YLp n0 (w + (k2 + 1)) MY = YLp n0 w MY2 := fun w => by rw [← Nat.add_assoc, hw1, a1]
    have b25 : gA MY2 25 (dp - 1) = nI bs := (fpA.2.1 25 _ (by unfold pReg; omega)).trans hYP.2.2.2.2.1
    have np : ¬ gA MY2 22 dp = 0 := by
      rcases hQ1 with z | z
      · rw [z]; decide
      · rw [z.1]; decide
    by_cases hc : gI MX2 386 = 93
    · obtain ⟨MX3, MY3, s3, sk, hw3, hs3, hP3, yp3, g45, fx3, fp3, g22, g23⟩ := closeP (kf := 5) (bs := bs) hn hE1 hSS (by decide) f21 (Or.inr (Or.inr rfl)) hc (Or.inr np) hdp.1 b25 hYP.2.2.2.2.2.1
      left
      refine ⟨MX3, MY3, s3, 1 + (k2 + 1), δ, [], ly ++ δ, ?_, ⟨fun w => ?_, by omega, by omega, hP3, a5.fi fx3 hq, by simpa [xtra] using yp3, by simp [fl], fun o ho => by simp at ho, by simp, ?_, g45, fun st hst => a12 st (by unfold DP at hst ⊢; omega), a13, (fx1.tr a14).tr fx3.p, fpA.tr fp3, by simp⟩, Or.inl ?_⟩
      · exact eq_b xg (eq_f i10 (eq_b er' (eq_f i10 (eq_b sk (eq_f i10 rfl)))))
      · rw [← Nat.add_assoc, hwA, hw3]
      · omega
      · rw [g22, if_pos rfl]
    · right
      obtain ⟨sk, go⟩ := endBad (n0 := n0) (dq := dp + 1) (kf := 5) a4 (by rw [Nat.add_sub_cancel]; exact f21) (by decide) hc (by
        rw [Nat.add_sub_cancel]
        rcases hQ1 with z | z
        · exact Or.inr (by rw [z]; decide)
        · exact Or.inl z.2) (Or.inr (by rw [Nat.add_sub_cancel]; exact ⟨np, hQ.2.1, hQ.2.2⟩)) a6.2.2.1 a6.2.2.2.1
      refine badGo hwA (by omega) hlen4 (fx1.tr a14) fpA a11 ?_ go
      exact eq_b xg (eq_f i10 (eq_b er' (eq_f i10 (eq_b sk (eq_t rfl rfl)))))
  rw [if_neg k91]
  by_cases k281 : gI MX 386 = 281
  · rw [if_pos k281]
    obtain ⟨y7, yn⟩ := yopNot (n0 := n0) hP k281 hYP.2.2.1 hdp hTP.1 hbg
    have hs := hP.2.1.2.2.2.2.lt (by rw [k281]; decide)
    by_cases h7 : op = 7
    · right
      refine badOp (k := 5) (r := 1) (p := nI s) (M1 := MY) hh (by decide) (by decide) (Or.inr rfl) ?_ FP.r (y7 (by rw [e42, h7]; rfl))
      refine eq_b (xgo5 h7 k281) (eq_t rfl ?_)
      show some ((0 : Int32), sI (sI MX 391 5) 392 (gI MX 387)) = _
      rw [hP.st]
      rfl
    have h7' : op < 7 := by omega
    have n7 : ¬ gI MY 42 = 7 := by rw [e42]; exact fun q => by have := (nI_eq (a := op) (b := 7) (by omega) (by decide)).mp q; omega
    obtain ⟨eh, yph, h26⟩ := pushNot (n0 := n0) hYP h7' (by omega)
    have hPp : PR L s MX (yPush (sI MY 42 (nI (op + 1))) m 43) := (hP.in_ (by decide)).push
    obtain ⟨MX1, Ma, s1, ax, ay, hs1, hP1, fx, fy, h3⟩ := hPp.adv3 hn hs
    have s3 := h3 k281
    have fY := fy.Y
    have hy := yn n7
    rw [e42, nI_1] at hy
    have hw1 : ∀ w, YLp n0 (w + 1) MY = YLp n0 w (sI Ma 45 0) := fun w => ylop h45 (Or.inl rfl) (hy.trans (eq_b eh (eq_b ay rfl))) hP1.f8
    have hFP : FP b (c0 + ly.length) dp m MY (sI Ma 45 0) := (((FP.r.i (k := 42) (by unfold pInt; omega)).tr (yPush_FP (Nat.le_refl m))).tr fY.p).i (by unfold pInt; omega)
    have fx' : FI 386 392 MX MX1 := fx.wk (by decide) (by decide)
    have hE1 : En L s1 qf b c0 dp (m + 1) bs (op + 1) (pw + 2) lx ly MX1 (sI Ma 45 0) := ⟨hP1.in_ (by decide), by rw [fx'.R]; exact h257, hq, hxl.fi fx' hq, (yph.tok fY).cong (fun k hk => gI_ne (by omega)) (fun a _ => rfl), ⟨by rw [fx'.2 258 (by omega), h258.1, hFP.1 35 (by unfold pInt; omega)], by rw [fx'.2 258 (by omega)]; exact h258.2⟩, by omega, by omega, by omega, hll, gI_at⟩
    have ar : ∀ a i, a ≠ 26 → gA (sI Ma 45 0) a i = gA MY a i := fun a i ha => by
      show gA Ma a i = _
      rw [fY.2.1 a id]
      unfold yPush
      show gA (sA (sI MY 42 _) 26 m 43) a i = _
      rw [gA_sA_ne ha]
      rfl
    have o26 : gA (sI Ma 45 0) 26 m = 43 := by
      show gA Ma 26 m = _
      rw [fY.2.1 26 id]
      exact h26
    have xg := xgo1 (n0 := n0) h7' k281 ax
    rcases hFact h7' s1 qf dp (m + 1) bs (pw + 2) lx ly MX1 (sI Ma 45 0) hE1 ⟨by rw [ar _ _ (by decide)]; exact hTP.1, by rw [ar _ _ (by decide)]; exact hTP.2.1, by rw [ar _ _ (by decide)]; exact hTP.2.2⟩ (Or.inr (by rw [Nat.add_sub_cancel, o26]; decide)) (by omega) with ⟨MX2, MY2, s2, k2, δ, R, ly2, er, hS, hQ⟩ | hB
    rotate_left
    · right
      refine badUp (k1 := 1) hw1 (by omega) fx'.p hFP (Nat.le_refl _) (Nat.le_refl _) (by omega) hB (fun M e => ?_)
      exact eq_b xg (eq_f i10 (eq_b (by rw [nI_1]; exact e) (eq_t rfl rfl)))
    have er' : rec 7 (nI op + (1 : Int32)) 0 MX1 = some (1, MX2) := by rw [nI_1]; exact er
    obtain ⟨hlen1, hlen2, hlen3, hlen4⟩ := hS.len hE1
    obtain ⟨a1, a2, a3, a4, a5, a6, a7, a8, a9, a10, a11, a12, a13, a14, a15, a16⟩ := hS
    have g257 : gR MX2 257 = qf := by rw [a14.2.2, fx'.R]; exact h257
    have l1 : (lx ++ exL δ).length < 1600 := by omega
    have l2 : (lx ++ exL δ ++ [0]).length < 1600 := by rw [List.length_append]; simp; rw [List.length_append] at a10; omega
    have e1 := xaddE (n0 := n0) (x := 0) a5 g257 l1
    have x1 := (a5.ad (n0 := n0) (x := 0) l1).2
    have g257' : gR (xAd qf (lx ++ exL δ).length 0 MX2) 257 = qf := g257
    have e2 := xaddE (n0 := n0) (x := -17) x1 g257' l2
    have x2 := (x1.ad (n0 := n0) (x := -17) l2).2
    have m26 : gA MY2 26 m = 43 := (a15.2.1 26 m (by unfold pReg; omega)).trans o26
    have n43 : nots [(43 : Int32)] = 1 := rfl
    have eex : exL (δ ++ [(43, 0)]) = exL δ ++ [0, -17] := by rw [exL_app, exL_one]; rfl
    left
    refine ⟨xAd qf (lx ++ exL δ ++ [0]).length (-17) (xAd qf (lx ++ exL δ).length 0 MX2), MY2, s2, k2 + 1, δ ++ [(43, 0)], R ++ [43], ly2, ?_, ⟨fun w => ?_, by omega, by omega, (a4.xad hq).xad hq, ?_, ?_, ?_, ?_, ?_, ?_, a11, ?_, by simp, ((fx'.p.tr a14).tr xAd_FP).tr xAd_FP, hFP.tr (a15.wk (Nat.le_refl _) (Nat.le_refl _) (by omega)), a16⟩, ?_⟩
    · exact eq_b xg (eq_f i10 (eq_b er' (eq_f i10 (eq_b e1 (eq_f i10 (eq_b e2 (eq_f i10 rfl)))))))
    · rw [← Nat.add_assoc, hw1, a1]
    · rw [eex]
      have : lx ++ (exL δ ++ [0, -17]) = lx ++ exL δ ++ [0] ++ [-17] := by simp
      rw [this]
      exact x2
    · refine YP.down (R0 := [43]) (m := m) (op := op) ?_ ⟨m26, trivial⟩ hYP.2.2.2.2.2.1
      rw [n43]
      exact a6
    · rw [show fl (R ++ [43]) = fl R ++ [(43, 0)] by simp [fl], ← List.append_assoc, a7, List.append_assoc]
    · intro o ho
      rcases List.mem_append.mp ho with z | z
      · exact a8 o z
      · rw [List.mem_singleton] at z
        rw [z]
        decide
    · rw [List.length_append]
      simp only [List.length_cons, List.length_nil]
      omega
    · rw [eex]
      simp only [List.length_append, List.length_cons, List.length_nil] at a10 ⊢
      omega
    · intro st hst
      unfold DP at hst a12
      rw [tyL_app, a12 st (by omega)]
      show tyL [((43 : Int32), (0 : Int32))] (true :: st) = _
      rw [tyL_one]
      show (if st.length < 59 then some (true :: st) else none) = _
      rw [if_pos (by omega)]
    · have hg : gI (xAd qf (lx ++ exL δ ++ [0]).length (-17) (xAd qf (lx ++ exL δ).length 0 MX2)) 386 = gI MX2 386 := by
        unfold xAd
        rw [gI_ne (by omega)]
        show gI (sI (sA MX2 _ _ _) (128 * qf + 1) _) 386 = _
        rw [gI_ne (by omega)]
        rfl
      unfold QFact
      rw [hg]
      exact hQ
  rw [if_neg k281]
  by_cases k282 : gI MX 386 = 282
  · left
    have hs := hP.2.1.2.2.2.2.lt (by rw [k282]; decide)
    have hP1 : PR L s MX (sA MY 23 (dp - 1) 0) := hP.ar (by decide)
    have hY1 : YP b c0 dp m bs op [] ly (sA MY 23 (dp - 1) 0) := hYP.cong (fun k _ => rfl) (fun a ha => gA_sA_ne (by omega))
    have f1 : FP b (c0 + ly.length) dp m MY (sA MY 23 (dp - 1) 0) := FP.r.a (by unfold pReg; omega)
    have ya := (hY1.add (n0 := n0) (x := 30) (y := 0) (by omega)).2
    refine leafP (so := 30) (v := 0) (x := 1) (M1 := sA MY 23 (dp - 1) 0) (fun M => sA M 22 (dp - 1) 2) hn hh hs hP1 hY1 f1 ((hP1.add.ar (by decide)).xad hq) (ya.cong (fun k _ => rfl) (fun a ha => gA_sA_ne (by omega))) (FP.r.a (by unfold pReg; omega)) (yopAll hP k282 hYP.2.2.1 hdp hTP.1 hbg) (fun MX' e => eq_t k282 (eq_b e (eq_t (Or.inr rfl) rfl))) (by decide) (fun st hst => ?_) (by unfold DP; omega) (fun MX' MY' fY => Or.inl ?_)
    · show (if st.length < 60 then some (true :: st) else none) = _
      rw [if_pos hst]
    · show gA MY' 22 (dp - 1) = _
      rw [fY.2.1 22 id, gA_sA, if_pos rfl, if_pos rfl]
  rw [if_neg k282]
  rcases hCmp s qf dp m bs pw lx ly MX MY hh hTP.1 hTP.2.1 ⟨k281, k91, k282⟩ hoc (by omega) with ⟨A, B, C, D', E', F', G', q1, q2, q3⟩ | ⟨A, B, C, q1, q2⟩
  · exact Or.inl ⟨A, B, C, D', E', F', G', eq_b q1 (eq_t (Or.inr rfl) rfl), q2.wk (by omega) (by decide) (Nat.le_refl _), q3⟩
  · exact Or.inr ⟨A, B, C, eq_b q1 (eq_t (Or.inl rfl) rfl), q2⟩
