/-! SUMS AND TESTS: from sign to sign on both sides -/
section STEPS
variable {n0 L s qf b c0 dp m bs op pw rl r D : Nat} {t : Bool} {lx : List Int32} {ly : List (Int32 × Int32)} {MX MY MXc MYc : Mem} {sc k : Nat} {δ : List (Int32 × Int32)} {R : List Int32} {lyc : List (Int32 × Int32)}
/-- what follows a sign that was taken: f changes the last frame's phase and begins, ahead, operand is wanted -/
theorem nxt {opc : Int32} {MYj : Mem} (f : Mem → Mem) (hn : 1601 ≤ n0) (h : En L s qf b c0 dp m bs op pw lx ly MX MY) (hS : St n0 L s qf b c0 dp m bs op pw lx ly MX MY rl r D t MXc MYc sc k δ R lyc) (hs : sc < L) (hj1 : YP b c0 dp m bs op [] (ly ++ δ) MYj) (hj2 : FP b (c0 + ly.length) dp m MYc MYj) (hjp : PR L sc MXc MYj) (ho : ¬ opc = 43) (hm : m < 399) (hf1 : ∀ M, PR L sc MXc M → PR L sc MXc (f M)) (hf2 : ∀ M, (∀ k, gI (f M) k = gI M k) ∧ (∀ a, a ≠ 22 → a ≠ 23 → gA (f M) a = gA M a) ∧ FP b (c0 + ly.length) dp m M (f M)) :
    ∃ MX1 MY1 s1 Ma, fX8_advance n0 MXc = some MX1 ∧ fX12_holdsBack n0 opc MYj = some (yPush MYj m opc) ∧ fX12_ahead n0 (f (yPush MYj m opc)) = some Ma ∧ MY1 = sI Ma 45 0 ∧ gI Ma 8 = 0 ∧ FrY (f (yPush MYj m opc)) Ma ∧ ((∀ w, YLp n0 (w + 1) MYc = YLp n0 w MY1) → Nx n0 L qf b c0 dp m bs op pw (lx ++ exL δ) (ly ++ δ) MXc MYc sc (c0 + ly.length) opc MX1 MY1 s1) := by
  obtain ⟨hlen1, hlen2, hlen3, hlen4⟩ := hS.len h
  obtain ⟨hP, h257, hq, hxl, hYP, h258, hdo, hmp, hcs, hll, h45⟩ := h
  obtain ⟨a1, a2, a3, a4, a5, a6, a7, a8, a9, a10, a11, a12, a13, a14, a15, a16⟩ := hS
  obtain ⟨p1, p2⟩ := hj1.push (n0 := n0) (o := opc) ho (by simp; omega)
  rw [show m + ([] : List Int32).length = m by simp] at p1 p2
  have hpp : PR L sc MXc (f (yPush MYj m opc)) := hf1 _ hjp.push
  obtain ⟨MX1, Ma, s1, ax, ay, hs1, hP1, fx, fy⟩ := hpp.adv hn hs
  have fY := fy.Y
  obtain ⟨g1, g2, g3⟩ := hf2 (yPush MYj m opc)
  have hFP : FP b (c0 + ly.length) dp m MYc (sI Ma 45 0) := (((hj2.tr (yPush_FP (Nat.le_refl m))).tr g3).tr fY.p).i (by unfold pInt; omega)
  refine ⟨MX1, sI Ma 45 0, s1, Ma, ax, p1, ay, rfl, hP1.f8, fY, fun hw => ⟨ax, hw, hs1, ⟨hP1.in_ (by decide), ?_, hq, ?_, ?_, ⟨?_, ?_⟩, hdo, by omega, ?_, ?_, gI_at⟩, ?_, hFP, fx.wk (by decide) (by decide)⟩⟩
  · rw [fx.R, a14.2.2]; exact h257
  · exact a5.fi (fx.wk (by decide) (by decide)) hq
  · have hup : YP b c0 dp (m + 1) bs op [] (ly ++ δ) (yPush MYj m opc) := by
      have := p2.up
      have e : nots [opc] = 0 := by
        show (if opc = 43 then 1 else 0) + nots [] = 0
        rw [if_neg ho]
        rfl
      rw [e] at this
      exact this
    have h2 : YP b c0 dp (m + 1) bs op [] (ly ++ δ) (f (yPush MYj m opc)) := hup.cong (fun k _ => g1 k) (fun a ha => g2 a (by omega) (by omega))
    exact (h2.tok fY).cong (fun k hk => gI_ne (by omega)) (fun a _ => rfl)
  · rw [fx.2 258 (by omega), a14.1 258 (by omega), h258.1]
    rw [hFP.1 35 (by unfold pInt; omega), a15.1 35 (by unfold pInt; omega)]
  · rw [fx.2 258 (by omega), a14.1 258 (by omega)]
    exact h258.2
  · omega
  · rw [List.length_append]; exact hlen3
  · show gA Ma 26 m = _
    rw [fY.2.1 26 id, g2 26 (by decide) (by decide)]
    unfold yPush
    show gA (sA MYj 26 m opc) 26 m = _
    rw [gA_sA, if_pos rfl, if_pos rfl]
def opOf (k : Int32) : Int32 := if k = 43 then 31 else if k = 45 then 32 else if k = 42 then 33 else if k = 47 then 34 else 35
theorem nxA {least : Nat} (hn : 1601 ≤ n0) (h : En L s qf b c0 dp m bs op pw lx ly MX MY) (hS : St n0 L s qf b c0 dp m bs op pw lx ly MX MY rl r D t MXc MYc sc k δ R lyc) (hk : ari (gI MXc 386)) (hl : least = if gI MXc 386 = 43 ∨ gI MXc 386 = 45 then 5 else 6) (hlr : least ≤ r) (hph : ¬ (2 : Int32) ≤ gA MYc 22 (dp - 1)) (hm : m < 399) (hoc : m = bs ∨ rkI (gA MY 26 (m - 1)) < least) (hmb : 1 ≤ m ∨ m = bs) :
    ∃ MX1 MY1 s1, Nx n0 L qf b c0 dp m bs op pw (lx ++ exL δ) (ly ++ δ) MXc MYc sc (c0 + ly.length) (opOf (gI MXc 386)) MX1 MY1 s1 ∧ gA MY1 22 (dp - 1) = gA MYc 22 (dp - 1) ∧ gA MY1 23 (dp - 1) = gA MYc 23 (dp - 1) := by
  have hh := h
  have hSS := hS
  obtain ⟨hlen1, hlen2, hlen3, hlen4⟩ := hS.len h
  obtain ⟨hP, h257, hq, hxl, hYP, h258, hdo, hmp, hcs, hll, h45⟩ := h
  obtain ⟨a1, a2, a3, a4, a5, a6, a7, a8, a9, a10, a11, a12, a13, a14, a15, a16⟩ := hS
  have nb : ¬ gI MXc 386 = 259 := by rcases hk with e | e | e | e | e <;> rw [e] <;> decide
  have hs := a4.2.1.2.2.2.2.lt nb
  have hl6 : least ≤ 6 := by rw [hl]; split <;> omega
  obtain ⟨Mj, ej, yj, fj⟩ := a6.join (n0 := n0) (least := least) hn (fun o ho => Nat.le_trans hlr (a8 o ho)) (by
    rcases hoc with q | q
    · exact Or.inl q
    · by_cases g : m = bs
      · exact Or.inl g
      · right
        rw [a15.2.1 26 (m - 1) (by unfold pReg; omega)]
        exact q) (by omega) hl6
  rw [a7] at yj
  have hbsm := hYP.2.2.2.2.2.1
  have ho : ¬ opOf (gI MXc 386) = 43 := by unfold opOf; rcases hk with e | e | e | e | e <;> rw [e] <;> decide
  obtain ⟨MX1, MY1, s1, Ma, q1, q2, q3, q4, q5, q6, q7⟩ := nxt (opc := opOf (gI MXc 386)) (fun M => M) hn hh hSS hs yj ((fj.p).wk (by omega) (Nat.le_refl _) (Nat.le_refl _)) (a4.jn fj) ho hm (fun M h => h) (fun M => ⟨fun _ => rfl, fun _ _ _ => rfl, FP.r⟩)
  have pj := a4.jn fj
  have hgo : fX12_goesOn n0 MYc = some (1, MY1) := by
    rw [ygoA a4 hk a6.2.2.1 a6.2.2.2.1 hph]
    have e112 : (if gI MXc 386 = 43 ∨ gI MXc 386 = 45 then (5 : Int32) else 6) = nI least := by
      rw [hl]
      split <;> rfl
    rw [e112]
    have e174 : ∀ o, o = opOf (gI MXc 386) → fX12_goesOn_174 n0 o Mj = some (1, MY1) := fun o eo => by
      subst eo
      unfold fX12_goesOn_174
      exact eq_b q2 (eq_b q3 (eq_n (by rw [q4])))
    unfold fX12_goesOn_112
    refine eq_b ej (eq_b (ySign (by decide) pj) ?_)
    unfold opOf at e174
    by_cases g1 : gI MXc 386 = 43
    · exact eq_f (bz g1) (e174 _ (by rw [if_pos g1]))
    refine eq_t (bI_f g1) (eq_b (ySign (by decide) pj) ?_)
    by_cases g2 : gI MXc 386 = 45
    · exact eq_f (bz g2) (e174 _ (by rw [if_neg g1, if_pos g2]))
    refine eq_t (bI_f g2) (eq_b (ySign (by decide) pj) ?_)
    by_cases g3 : gI MXc 386 = 42
    · exact eq_f (bz g3) (e174 _ (by rw [if_neg g1, if_neg g2, if_pos g3]))
    refine eq_t (bI_f g3) (eq_b (ySign (by decide) pj) ?_)
    by_cases g4 : gI MXc 386 = 47
    · exact eq_f (bz g4) (e174 _ (by rw [if_neg g1, if_neg g2, if_neg g3, if_pos g4]))
    exact eq_t (bI_f g4) (e174 _ (by rw [if_neg g1, if_neg g2, if_neg g3, if_neg g4]))
  have m8 : gI MY1 8 = 0 := by rw [q4, gI_ne (by decide)]; exact q5
  have keep : ∀ a, a = 22 ∨ a = 23 → gA MY1 a (dp - 1) = gA MYc a (dp - 1) := fun a ha => by
    rw [q4]
    show gA Ma a (dp - 1) = _
    rw [q6.2.1 a id]
    unfold yPush
    show gA (sA Mj 26 m _) a (dp - 1) = _
    rw [gA_sA_ne (by omega), fj.2.1 a _ (by omega)]
  exact ⟨MX1, MY1, s1, q7 (fun w => ylgo (by rw [a11]; decide) hgo m8), keep 22 (Or.inl rfl), keep 23 (Or.inr rfl)⟩
def cmOf (k : Int32) : Int32 := if k = 60 then 38 else if k = 62 then 39 else 40
theorem nxC (hn : 1601 ≤ n0) (h : En L s qf b c0 dp m bs op pw lx ly MX MY) (hS : St n0 L s qf b c0 dp m bs op pw lx ly MX MY rl r D t MXc MYc sc k δ R lyc) (hk : gI MXc 386 = 60 ∨ gI MXc 386 = 62 ∨ gI MXc 386 = 61) (hlr : 5 ≤ r) (hT : isT (gA MYc 21 (dp - 1))) (hph : gA MYc 22 (dp - 1) = 0) (hm : m < 399) (hoc : m = bs ∨ rkI (gA MY 26 (m - 1)) < 5) :
    ∃ MX1 MY1 s1, Nx n0 L qf b c0 dp m bs op pw (lx ++ exL δ) (ly ++ δ) MXc MYc sc (c0 + ly.length) (cmOf (gI MXc 386)) MX1 MY1 s1 ∧ gA MY1 22 (dp - 1) = 1 ∧ gA MY1 23 (dp - 1) = gA MYc 23 (dp - 1) := by
  have hh := h
  have hSS := hS
  obtain ⟨hlen1, hlen2, hlen3, hlen4⟩ := hS.len h
  obtain ⟨hP, h257, hq, hxl, hYP, h258, hdo, hmp, hcs, hll, h45⟩ := h
  obtain ⟨a1, a2, a3, a4, a5, a6, a7, a8, a9, a10, a11, a12, a13, a14, a15, a16⟩ := hS
  have nb : ¬ gI MXc 386 = 259 := by rcases hk with e | e | e <;> rw [e] <;> decide
  have nb2 : ¬ gI MXc 386 = 258 := by rcases hk with e | e | e <;> rw [e] <;> decide
  have na : ¬ ari (gI MXc 386) := by rcases hk with e | e | e <;> rw [e] <;> decide
  have hs := a4.2.1.2.2.2.2.lt nb
  obtain ⟨Mj, ej, yj, fj⟩ := a6.join (n0 := n0) (least := 5) hn (fun o ho => Nat.le_trans hlr (a8 o ho)) (by
    rcases hoc with q | q
    · exact Or.inl q
    · by_cases g : m = bs
      · exact Or.inl g
      · right
        have := hYP.2.2.2.2.2.1
        rw [a15.2.1 26 (m - 1) (by unfold pReg; omega)]
        exact q) (by omega) (by decide)
  rw [a7] at yj
  have hdp := a6.2.2.2.1
  have ho : ¬ cmOf (gI MXc 386) = 43 := by unfold cmOf; rcases hk with e | e | e <;> rw [e] <;> decide
  obtain ⟨MX1, MY1, s1, Ma, q1, q2, q3, q4, q5, q6, q7⟩ := nxt (opc := cmOf (gI MXc 386)) (fun M => sA M 22 (dp - 1) 1) hn hh hSS hs yj ((fj.p).wk (by omega) (Nat.le_refl _) (Nat.le_refl _)) (a4.jn fj) ho hm (fun M h => h.ar (by decide)) (fun M => ⟨fun _ => rfl, fun a h1 _ => gA_sA_ne h1, FP.r.a (by unfold pReg; omega)⟩)
  have pj := a4.jn fj
  have hcl : (nI (dp - 1)).toNatClampNeg = dp - 1 := nI_clamp (by omega)
  have o : ¬ oob (nI (dp - 1)) 20 := nI_in (by omega) (by decide)
  have hgo : fX12_goesOn n0 MYc = some (1, MY1) := by
    rw [ygo188 a4 nb2 (Or.inl na) a6.2.2.1 hdp]
    have e264 : ∀ o', o' = cmOf (gI MXc 386) → fX12_goesOn_264 n0 (nI (dp - 1)) o' Mj = some (1, MY1) := fun o' eo => by
      subst eo
      unfold fX12_goesOn_264
      simp only [hcl]
      exact eq_b q2 (eq_f o (eq_n (eq_b q3 (eq_n (by rw [q4])))))
    have e228 : fX12_goesOn_228 n0 (nI (dp - 1)) MYc = some (1, MY1) := by
      unfold fX12_goesOn_228
      refine eq_b ej (eq_b (ySign (by decide) pj) ?_)
      unfold cmOf at e264
      by_cases g1 : gI MXc 386 = 60
      · exact eq_f (bz g1) (e264 _ (by rw [if_pos g1]))
      refine eq_t (bI_f g1) (eq_b (ySign (by decide) pj) ?_)
      by_cases g2 : gI MXc 386 = 62
      · exact eq_f (bz g2) (e264 _ (by rw [if_neg g1, if_pos g2]))
      exact eq_t (bI_f g2) (e264 _ (by rw [if_neg g1, if_neg g2]))
    unfold fX12_goesOn_188
    simp only [hcl]
    refine eq_f (bz hT) (eq_f o (eq_t hph (eq_b (ySign (by decide) a4) ?_)))
    by_cases g1 : gI MXc 386 = 60
    · exact eq_f (bz g1) e228
    refine eq_t (bI_f g1) (eq_b (ySign (by decide) a4) ?_)
    by_cases g2 : gI MXc 386 = 62
    · exact eq_f (bz g2) e228
    refine eq_t (bI_f g2) (eq_b (ySign (by decide) a4) ?_)
    have g3 : gI MXc 386 = 61 := by
      rcases hk with q | q | q
      · exact absurd q g1
      · exact absurd q g2
      · exact q
    exact eq_f (bz g3) e228
  have m8 : gI MY1 8 = 0 := by rw [q4, gI_ne (by decide)]; exact q5
  refine ⟨MX1, MY1, s1, q7 (fun w => ylgo (by rw [a11]; decide) hgo m8), ?_, ?_⟩
  · rw [q4]
    show gA Ma 22 (dp - 1) = _
    rw [q6.2.1 22 id, gA_sA, if_pos rfl, if_pos rfl]
  · rw [q4]
    show gA Ma 23 (dp - 1) = _
    rw [q6.2.1 23 id, gA_sA_ne (by decide)]
    unfold yPush
    show gA (sA Mj 26 m _) 23 (dp - 1) = _
    rw [gA_sA_ne (by decide), fj.2.1 23 _ (by omega)]
/-- and, or -/
theorem nxL {least : Nat} (hn : 1601 ≤ n0) (h : En L s qf b c0 dp m bs op pw lx ly MX MY) (hS : St n0 L s qf b c0 dp m bs op pw lx ly MX MY rl r D t MXc MYc sc k δ R lyc) (hk : gI MXc 386 = 280 ∨ gI MXc 386 = 279) (hl : least = if gI MXc 386 = 280 then 2 else 1) (hlr : least ≤ r) (hT : isT (gA MYc 21 (dp - 1))) (hph : ¬ gA MYc 22 (dp - 1) = 0) (hm : m < 399) (hoc : m = bs ∨ rkI (gA MY 26 (m - 1)) < least) :
    ∃ MX1 MY1 s1, Nx n0 L qf b c0 dp m bs op pw (lx ++ exL δ) (ly ++ δ) MXc MYc sc (c0 + ly.length) (if gI MXc 386 = 280 then 41 else 42) MX1 MY1 s1 ∧ gA MY1 22 (dp - 1) = 0 ∧ gA MY1 23 (dp - 1) = 1 := by
  have hh := h
  have hSS := hS
  obtain ⟨hlen1, hlen2, hlen3, hlen4⟩ := hS.len h
  obtain ⟨hP, h257, hq, hxl, hYP, h258, hdo, hmp, hcs, hll, h45⟩ := h
  obtain ⟨a1, a2, a3, a4, a5, a6, a7, a8, a9, a10, a11, a12, a13, a14, a15, a16⟩ := hS
  have nb : ¬ gI MXc 386 = 259 := by rcases hk with e | e <;> rw [e] <;> decide
  have nb2 : ¬ gI MXc 386 = 258 := by rcases hk with e | e <;> rw [e] <;> decide
  have na : ¬ ari (gI MXc 386) := by rcases hk with e | e <;> rw [e] <;> decide
  have hs := a4.2.1.2.2.2.2.lt nb
  have hl6 : least ≤ 6 := by rw [hl]; split <;> omega
  obtain ⟨Mj, ej, yj, fj⟩ := a6.join (n0 := n0) (least := least) hn (fun o ho => Nat.le_trans hlr (a8 o ho)) (by
    rcases hoc with q | q
    · exact Or.inl q
    · by_cases g : m = bs
      · exact Or.inl g
      · right
        have := hYP.2.2.2.2.2.1
        rw [a15.2.1 26 (m - 1) (by unfold pReg; omega)]
        exact q) (by omega) hl6
  rw [a7] at yj
  have hdp := a6.2.2.2.1
  have e8 : gI MYc 8 ≤ 0 := by rw [a4.f8]; exact i00
  have ho : ¬ (if gI MXc 386 = 280 then (41 : Int32) else 42) = 43 := by split <;> decide
  obtain ⟨MX1, MY1, s1, Ma, q1, q2, q3, q4, q5, q6, q7⟩ := nxt (opc := if gI MXc 386 = 280 then 41 else 42) (fun M => sA (sA M 22 (dp - 1) 0) 23 (dp - 1) 1) hn hh hSS hs yj ((fj.p).wk (by omega) (Nat.le_refl _) (Nat.le_refl _)) (a4.jn fj) ho hm (fun M h => (h.ar (by decide)).ar (by decide)) (fun M => ⟨fun _ => rfl, fun a h1 h2 => by rw [gA_sA_ne h2, gA_sA_ne h1], (FP.r.a (by unfold pReg; omega)).a (by unfold pReg; omega)⟩)
  have hcl : (nI (dp - 1)).toNatClampNeg = dp - 1 := nI_clamp (by omega)
  have o : ¬ oob (nI (dp - 1)) 20 := nI_in (by omega) (by decide)
  have w1 : fX12_isWord n0 6385252 MYc = some (bI (gI MXc 386 = 280), MYc) := yWord (i := 20) (by decide) (by decide) (by decide) a4 nb2
  have w2 : fX12_isWord n0 28530 MYc = some (bI (gI MXc 386 = 279), MYc) := yWord (i := 19) (by decide) (by decide) (by decide) a4 nb2
  have hgo : fX12_goesOn n0 MYc = some (1, MY1) := by
    rw [ygo188 a4 nb2 (Or.inl na) a6.2.2.1 hdp]
    have e372 : ∀ o', o' = (if gI MXc 386 = 280 then (41 : Int32) else 42) → fX12_goesOn_372 n0 (nI (dp - 1)) o' Mj = some (1, MY1) := fun o' eo => by
      subst eo
      unfold fX12_goesOn_372
      simp only [hcl]
      exact eq_b q2 (eq_f o (eq_n (eq_f o (eq_n (eq_b q3 (eq_n (by rw [q4])))))))
    have e309 : fX12_goesOn_309 n0 (nI (dp - 1)) MYc = some (1, MY1) := by
      unfold fX12_goesOn_309 fX12_goesOn_327 fX12_goesOn_356
      simp only [hcl]
      refine eq_f o (eq_f hph (eq_t e8 (eq_b w1 ?_)))
      by_cases g : gI MXc 386 = 280
      · rw [if_pos g] at hl
        subst hl
        exact eq_f (bz g) (eq_b ej (eq_f (bz g) (e372 _ (by rw [if_pos g]))))
      · rw [if_neg g] at hl
        subst hl
        exact eq_t (bI_f g) (eq_b ej (eq_t (bI_f g) (e372 _ (by rw [if_neg g]))))
    have e285 : fX12_goesOn_285 n0 (nI (dp - 1)) (gA MYc 21 (dp - 1)) (bI (isT (gA MYc 21 (dp - 1)))) MYc = some (1, MY1) := by
      unfold fX12_goesOn_285
      refine eq_f (bz hT) (eq_b w1 ?_)
      by_cases g : gI MXc 386 = 280
      · exact eq_f (bz g) e309
      · have g2 : gI MXc 386 = 279 := by
          rcases hk with q | q
          · exact absurd q g
          · exact q
        exact eq_t (bI_f g) (eq_b w2 (eq_f (bz g2) e309))
    unfold fX12_goesOn_188
    simp only [hcl]
    exact eq_f (bz hT) (eq_f o (eq_f hph e285))
  have m8 : gI MY1 8 = 0 := by rw [q4, gI_ne (by decide)]; exact q5
  refine ⟨MX1, MY1, s1, q7 (fun w => ylgo (by rw [a11]; decide) hgo m8), ?_, ?_⟩
  · rw [q4]
    show gA Ma 22 (dp - 1) = _
    rw [q6.2.1 22 id, gA_sA_ne (by decide), gA_sA, if_pos rfl, if_pos rfl]
  · rw [q4]
    show gA Ma 23 (dp - 1) = _
    rw [q6.2.1 23 id, gA_sA, if_pos rfl, if_pos rfl]
end STEPS
