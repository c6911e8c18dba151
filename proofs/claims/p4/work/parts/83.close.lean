/-! SUMS AND TESTS: faults further in, ends of frames, commas -/
section CLS
variable {n0 L s qf b c0 dp m bs op pw : Nat} {lx : List Int32} {ly : List (Int32 × Int32)} {MX MY : Mem}
theorem badUp {s1 k1 dp1 m1 : Nat} {ly1 : List (Int32 × Int32)} {MX1 MY1 : Mem} {rx rx' : Option (Int32 × Mem)} (hw : ∀ w, YLp n0 (w + k1) MY = YLp n0 w MY1) (hs : s + k1 ≤ s1) (fx : FPx qf MX MX1) (fy : FP b (c0 + ly.length) dp m MY MY1) (hl : ly.length ≤ ly1.length) (hd : dp ≤ dp1) (hm : m ≤ m1) (hB : Bad n0 s1 qf b c0 dp1 m1 ly1 MX1 MY1 rx) (hx : ∀ M, rx = some (0, M) → rx' = some (0, M)) : Bad n0 s qf b c0 dp m ly MX MY rx' := by
  obtain ⟨MX', MY', k, e, hk, hsk, hf, gx, gy⟩ := hB
  refine ⟨MX', MY', k + k1, hx _ e, fun w => ?_, by omega, hf, fx.tr gx, fy.tr (gy.wk (by omega) hd hm)⟩
  rw [← Nat.add_assoc, hw]
  exact hk w
theorem badGo {sc k : Nat} {p : Int32} {MXc MYc : Mem} {rx : Option (Int32 × Mem)} (hw : ∀ w, YLp n0 (w + k) MY = YLp n0 w MYc) (hs : s + k ≤ sc) (hsc : sc ≤ 1600) (fx : FPx qf MX MXc) (fy : FP b (c0 + ly.length) dp m MY MYc) (h45 : gI MYc 45 = 1) (hx : rx = some (0, sI (sI MXc 391 1) 392 p)) (hy : fX12_goesOn n0 MYc = some (0, sI (sI MYc 8 1) 9 p)) : Bad n0 s qf b c0 dp m ly MX MY rx := by
  refine ⟨_, _, 2 + k, hx, fun w => ?_, by omega, Flt.mk (k := 1) (by decide) (by decide), fx.tr FIf.p, (fy.i (by unfold pInt; omega)).i (by unfold pInt; omega)⟩
  rw [← Nat.add_assoc, hw]
  exact ylgo0 (by rw [h45]; decide) hy
theorem endBad {dq sc : Nat} {kf : Int32} {MXc MYc : Mem} (hP : PR L sc MXc MYc) (hkf : gA MYc 21 (dq - 1) = kf) (h2 : (2 : Int32) ≤ kf) (hne : ¬ gI MXc 386 = endOf kf) (hk : ¬ ari (gI MXc 386) ∨ (2 : Int32) ≤ gA MYc 22 (dq - 1)) (hT : ¬ isT kf ∨ (¬ gA MYc 22 (dq - 1) = 0 ∧ ¬ gI MXc 386 = 280 ∧ ¬ gI MXc 386 = 279)) (h41 : gI MYc 41 = nI dq) (hdq : 1 ≤ dq ∧ dq ≤ 9) : fX8_skip n0 (endOf kf) MXc = some (0, sI (sI MXc 391 1) 392 (gI MXc 388)) ∧ fX12_goesOn n0 MYc = some (0, sI (sI MYc 8 1) 9 (gI MXc 388)) := by
  refine ⟨xskF hne, ?_⟩
  by_cases hb : gI MXc 386 = 258
  · exact ygoB hP hb
  · rw [ygo422 hP hb hk (by rw [hkf]; exact hT) h41 hdq, hkf, hP.pl hb]
    exact ygoEnd hP hne h2 hb
theorem endOf_na {kf : Int32} : ¬ ari (endOf kf) ∧ ¬ endOf kf = 258 ∧ ¬ endOf kf = 259 ∧ ¬ endOf kf = 280 ∧ ¬ endOf kf = 279 := by
  unfold endOf
  repeat' split
  all_goals decide
/-- what a closed frame leaves -/
def xtra (kf pr : Int32) : List (Int32 × Int32) := if kf = 4 then [(pr, 0)] else []
theorem closeP {kf : Int32} {sc si rl r D k : Nat} {t : Bool} {lxi : List Int32} {lyi lyc δ : List (Int32 × Int32)} {R : List Int32} {MXi MYi MXc MYc : Mem} (hn : 1601 ≤ n0) (hi : En L si qf b c0 (dp + 1) m m (op + 1) pw lxi lyi MXi MYi) (hS : St n0 L si qf b c0 (dp + 1) m m (op + 1) pw lxi lyi MXi MYi rl r D t MXc MYc sc k δ R lyc) (hr : 1 ≤ r) (hkf : gA MYc 21 dp = kf) (hk4 : kf = 2 ∨ kf = 4 ∨ kf = 5) (hk : gI MXc 386 = endOf kf) (hT : ¬ isT kf ∨ ¬ gA MYc 22 dp = 0) (hdp : 1 ≤ dp) (hbs : gA MYc 25 (dp - 1) = nI bs) (hb : bs ≤ m) :
    ∃ MX1 MY1 s1, fX8_skip n0 (endOf kf) MXc = some (1, MX1) ∧ (∀ w, YLp n0 (w + 1) MYc = YLp n0 w MY1) ∧ sc < s1 ∧ PR L s1 MX1 MY1 ∧ YP b c0 dp m bs op [] (lyi ++ δ ++ xtra kf (gA MYc 24 dp)) MY1 ∧ gI MY1 45 = 1 ∧ FI 386 392 MXc MX1 ∧ FP b (c0 + lyi.length) dp m MYc MY1 ∧ gA MY1 22 (dp - 1) = (if kf = 5 then 2 else gA MYc 22 (dp - 1)) ∧ gA MY1 23 (dp - 1) = gA MYc 23 (dp - 1) := by
  obtain ⟨hlen1, hlen2, hlen3, hlen4⟩ := hS.len hi
  obtain ⟨a1, a2, a3, a4, a5, a6, a7, a8, a9, a10, a11, a12, a13, a14, a15, a16⟩ := hS
  obtain ⟨na, nb, nb9, n280, n279⟩ := endOf_na (kf := kf)
  have hL16 := a4.L16
  have hb8 : ¬ gI MXc 386 = 258 := by rw [hk]; exact nb
  have hs := a4.2.1.2.2.2.2.lt (by rw [hk]; exact nb9)
  have hdq := a6.2.2.2.1
  obtain ⟨Mj, pj, yj, arj, j45, fj, e546⟩ := cl546 (n0 := n0) (x2 := kf) (bs := bs) hn a4 a6 (fun o ho => Nat.le_trans hr (a8 o ho)) (by omega) hdp hbs hb
  rw [a7] at yj
  have hgo : fX12_goesOn n0 MYc = fX12_goesOn_546 n0 (nI dp) kf MYc := by
    rw [ygo422 (dp := dp + 1) a4 hb8 (Or.inl (by rw [hk]; exact na)) (by
      rw [Nat.add_sub_cancel, hkf]
      rcases hT with q | q
      · exact Or.inl q
      · exact Or.inr ⟨q, by rw [hk]; exact n280, by rw [hk]; exact n279⟩) a6.2.2.1 hdq, Nat.add_sub_cancel, hkf]
    unfold fX12_goesOn_422 fX12_goesOn_531
    rcases hk4 with q | q | q
    · subst q
      exact eq_t (by decide) (eq_f (by decide) (eq_f (by decide) (eq_f (by decide) (eq_b (ySign (by decide) a4) (eq_f (bz (by rw [hk]; rfl)) rfl)))))
    · subst q
      exact eq_t (by decide) (eq_f (by decide) (eq_f (by decide) (eq_f (by decide) (eq_b (ySign (by decide) a4) (eq_f (bz (by rw [hk]; rfl)) rfl)))))
    · subst q
      exact eq_t (by decide) (eq_f (by decide) (eq_f (by decide) (eq_t (by decide) (eq_b (ySign (by decide) a4) (eq_f (bz (by rw [hk]; rfl)) rfl)))))
  -- what stands ahead of the next token
  have core : ∀ Mz, PR L sc MXc Mz → YP b c0 dp m bs op [] (lyi ++ δ ++ xtra kf (gA MYc 24 dp)) Mz → gI Mz 45 = 1 → FP b (c0 + lyi.length) dp m MYc Mz → gA Mz 22 (dp - 1) = (if kf = 5 then 2 else gA MYc 22 (dp - 1)) → gA Mz 23 (dp - 1) = gA MYc 23 (dp - 1) → fX12_goesOn_546 n0 (nI dp) kf MYc = (fX12_ahead n0 Mz).bind (fun z => some (1, z)) → ∃ MX1 MY1 s1, fX8_skip n0 (endOf kf) MXc = some (1, MX1) ∧ (∀ w, YLp n0 (w + 1) MYc = YLp n0 w MY1) ∧ sc < s1 ∧ PR L s1 MX1 MY1 ∧ YP b c0 dp m bs op [] (lyi ++ δ ++ xtra kf (gA MYc 24 dp)) MY1 ∧ gI MY1 45 = 1 ∧ FI 386 392 MXc MX1 ∧ FP b (c0 + lyi.length) dp m MYc MY1 ∧ gA MY1 22 (dp - 1) = (if kf = 5 then 2 else gA MYc 22 (dp - 1)) ∧ gA MY1 23 (dp - 1) = gA MYc 23 (dp - 1) := by
    intro Mz z1 z2 z3 z4 z5 z6 z7
    obtain ⟨MX1, MY1, s1, ax, ay, hs1, hP1, fx, fy⟩ := z1.adv hn hs
    have fY := fy.Y
    refine ⟨MX1, MY1, s1, ?_, fun w => ylgo (by rw [a11]; decide) (hgo.trans (z7.trans (eq_b ay rfl))) hP1.f8, hs1, hP1, z2.tok fY, (fY.1 45 (by omega)).trans z3, fx.wk (by decide) (by decide), z4.tr fY.p, ?_, ?_⟩
    · unfold fX8_skip
      exact eq_t hk (eq_b ax rfl)
    · rw [fY.2.1 22 id]; exact z5
    · rw [fY.2.1 23 id]; exact z6
  have fj' : FP b (c0 + lyi.length) dp m MYc Mj := fj.wk (by omega) (Nat.le_refl _) (Nat.le_refl _)
  have o : ¬ oob (nI dp) 20 := nI_in (by omega) (by decide)
  rcases hk4 with q | q | q
  · refine core Mj pj (by rw [q]; simpa [xtra] using yj) (j45.trans a11) fj' (by rw [q, if_neg (by decide)]; exact arj _ _ (by decide) (by decide)) (arj _ _ (by decide) (by decide)) ?_
    rw [e546, q]
    refine eq_f (by decide) ?_
    unfold fX12_goesOn_596 fX12_goesOn_613
    exact eq_f (by decide) rfl
  · obtain ⟨ea, ya⟩ := yj.add (n0 := n0) (x := gA MYc 24 dp) (y := 0) (by rw [List.length_append]; omega)
    have i24 : gA Mj 24 dp = gA MYc 24 dp := arj _ _ (by decide) (by decide)
    have ar2 : ∀ a i, a ≠ 16 → a ≠ 17 → gA (yAdd Mj b (c0 + (lyi ++ δ).length) (gA MYc 24 dp) 0) a i = gA MYc a i := fun a i h1 h2 => by
      unfold yAdd
      show gA (sA (sA Mj 16 _ _) 17 _ _) a i = _
      rw [gA_sA_ne h2, gA_sA_ne h1]
      exact arj a i h1 h2
    refine core (yAdd Mj b (c0 + (lyi ++ δ).length) (gA MYc 24 dp) 0) pj.add (by rw [q]; simpa [xtra] using ya) ?_ (fj'.tr ((yAdd_FP (by rw [List.length_append]; omega)).wk (by rw [List.length_append]; omega) (Nat.le_refl _) (Nat.le_refl _))) (by rw [q, if_neg (by decide)]; exact ar2 _ _ (by decide) (by decide)) (ar2 _ _ (by decide) (by decide)) ?_
    · unfold yAdd
      rw [gI_ne (by decide)]
      exact j45.trans a11
    · rw [e546, q, i24]
      refine eq_t rfl (eq_f o (eq_b ea ?_))
      unfold fX12_goesOn_596 fX12_goesOn_613
      exact eq_f (by decide) rfl
  · have m41 : gI Mj 41 - 1 = nI (dp - 1) := by rw [yj.2.2.1]; exact nI_subN (b := 1) hdp
    refine core (sA Mj 22 (dp - 1) 2) (pj.ar (by decide)) (by
      have z := yj.cong (M' := sA Mj 22 (dp - 1) 2) (fun k _ => rfl) (fun a ha => gA_sA_ne (by omega))
      rw [q]
      simpa [xtra] using z) (j45.trans a11) (fj'.a (by unfold pReg; omega)) (by rw [q, if_pos rfl, gA_sA, if_pos rfl, if_pos rfl]) (by rw [gA_sA_ne (by decide)]; exact arj _ _ (by decide) (by decide)) ?_
    rw [e546, q]
    refine eq_f (by decide) ?_
    unfold fX12_goesOn_596 fX12_goesOn_613
    refine eq_t rfl (eq_f (by rw [m41]; exact nI_in (by omega) (by decide)) ?_)
    rw [m41, nI_clamp (by omega)]
/-- a comma: the frame's next part -/
theorem commaP {kf : Int32} {sc si rl r D k : Nat} {t : Bool} {lxi : List Int32} {lyi lyc δ : List (Int32 × Int32)} {R : List Int32} {MXi MYi MXc MYc : Mem} (hn : 1601 ≤ n0) (hi : En L si qf b c0 (dp + 1) m m (op + 1) pw lxi lyi MXi MYi) (hS : St n0 L si qf b c0 (dp + 1) m m (op + 1) pw lxi lyi MXi MYi rl r D t MXc MYc sc k δ R lyc) (hr : 1 ≤ r) (hkf : gA MYc 21 dp = kf) (hk4 : kf = 3 ∨ kf = 6) (hk : gI MXc 386 = 44) (hT : ¬ isT kf ∨ ¬ gA MYc 22 dp = 0) (hdp : 1 ≤ dp) :
    ∃ MX1 MY1 s1, fX8_skip n0 44 MXc = some (1, MX1) ∧ (∀ w, YLp n0 (w + 1) MYc = YLp n0 w MY1) ∧ sc < s1 ∧ En L s1 qf b c0 (dp + 1) m m (op + 1) pw (lxi ++ exL δ) (lyi ++ δ) MX1 MY1 ∧ FI 386 392 MXc MX1 ∧ FP b (c0 + lyi.length) dp m MYc MY1 ∧ gA MY1 21 dp = (if kf = 3 then 4 else 3) ∧ gA MY1 22 dp = 0 ∧ (∀ a, a = 22 ∨ a = 23 ∨ a = 25 → gA MY1 a (dp - 1) = gA MYc a (dp - 1)) ∧ gA MY1 24 dp = gA MYc 24 dp := by
  obtain ⟨hlen1, hlen2, hlen3, hlen4⟩ := hS.len hi
  obtain ⟨hP, h257, hq, hxl, hYP, h258, hdo, hmp, hcs, hll, h45⟩ := hi
  obtain ⟨a1, a2, a3, a4, a5, a6, a7, a8, a9, a10, a11, a12, a13, a14, a15, a16⟩ := hS
  have hb8 : ¬ gI MXc 386 = 258 := by rw [hk]; decide
  have hs := a4.2.1.2.2.2.2.lt (by rw [hk]; decide)
  have hdq := a6.2.2.2.1
  obtain ⟨Mj, ej, yj, fj⟩ := a6.join (n0 := n0) (least := 1) hn (fun o ho => Nat.le_trans hr (a8 o ho)) (Or.inl rfl) (by omega) (by decide)
  rw [a7] at yj
  have pj := a4.jn fj
  have hcl : (nI dp).toNatClampNeg = dp := nI_clamp (by omega)
  have o : ¬ oob (nI dp) 20 := nI_in (by omega) (by decide)
  have pz : PR L sc MXc (sA (sA Mj 21 dp (if kf = 3 then 4 else 3)) 22 dp 0) := (pj.ar (by decide)).ar (by decide)
  obtain ⟨MX1, Ma, s1, ax, ay, hs1, hP1, fx, fy⟩ := pz.adv hn hs
  have fY := fy.Y
  have ar : ∀ a i, a ≠ 16 → a ≠ 17 → a ≠ 21 → a ≠ 22 → gA (sI Ma 45 0) a i = gA MYc a i := fun a i h1 h2 h3 h4 => by
    show gA Ma a i = _
    rw [fY.2.1 a id, gA_sA_ne h4, gA_sA_ne h3, fj.2.1 a i (by omega)]
  have hFP : FP b (c0 + lyi.length) dp m MYc (sI Ma 45 0) := ((((fj.p.wk (by omega) (Nat.le_refl dp) (Nat.le_refl m)).a (by unfold pReg; omega)).a (by unfold pReg; omega)).tr fY.p).i (by unfold pInt; omega)
  have hgo : fX12_goesOn n0 MYc = some (1, sI Ma 45 0) := by
    rw [ygo422 (dp := dp + 1) a4 hb8 (Or.inl (by rw [hk]; decide)) (by
      rw [Nat.add_sub_cancel, hkf]
      rcases hT with q | q
      · exact Or.inl q
      · exact Or.inr ⟨q, by rw [hk]; decide, by rw [hk]; decide⟩) a6.2.2.1 hdq, Nat.add_sub_cancel, hkf]
    have e499 : ∀ u, u = (if kf = 3 then (4 : Int32) else 3) → fX12_goesOn_499 n0 (nI dp) (nI dp) u Mj = some (1, sI Ma 45 0) := fun u eu => by
      subst eu
      unfold fX12_goesOn_499
      simp only [hcl]
      exact eq_f o (eq_n (eq_f o (eq_n (eq_b ay (eq_n rfl)))))
    have e452 : fX12_goesOn_452 n0 (nI dp) kf MYc = some (1, sI Ma 45 0) := by
      unfold fX12_goesOn_452 fX12_goesOn_470
      refine eq_b (ySign (by decide) a4) (eq_f (bz hk) (eq_t (by show gI MYc 8 ≤ 0; rw [a4.f8]; exact i00) (eq_b ej ?_)))
      by_cases g : kf = 3
      · exact eq_t g (e499 _ (by rw [if_pos g]))
      · exact eq_f g (e499 _ (by rw [if_neg g]))
    unfold fX12_goesOn_422
    rcases hk4 with q | q
    · exact eq_t (by rw [q]; decide) (eq_t q e452)
    · exact eq_t (by rw [q]; decide) (eq_f (by rw [q]; decide) (eq_t q e452))
  refine ⟨MX1, sI Ma 45 0, s1, ?_, fun w => ylgo (by rw [a11]; decide) hgo (by rw [gI_ne (by decide)]; exact hP1.f8), hs1, ⟨hP1.in_ (by decide), ?_, hq, ?_, ?_, ⟨?_, ?_⟩, hdo, hmp, by omega, ?_, gI_at⟩, fx.wk (by decide) (by decide), hFP, ?_, ?_, fun a ha => ?_, ?_⟩
  · unfold fX8_skip
    exact eq_t hk (eq_b ax rfl)
  · rw [fx.R, a14.2.2]; exact h257
  · exact a5.fi (fx.wk (by decide) (by decide)) hq
  · exact ((yj.cong (M' := sA (sA Mj 21 dp (if kf = 3 then 4 else 3)) 22 dp 0) (fun k _ => rfl) (fun a ha => by rw [gA_sA_ne (by omega), gA_sA_ne (by omega)])).tok fY).cong (fun k hk => gI_ne (by omega)) (fun a _ => rfl)
  · rw [fx.2 258 (by omega), a14.1 258 (by omega), h258.1, hFP.1 35 (by unfold pInt; omega), a15.1 35 (by unfold pInt; omega)]
  · rw [fx.2 258 (by omega), a14.1 258 (by omega)]; exact h258.2
  · rw [List.length_append]; exact hlen3
  · show gA Ma 21 dp = _
    rw [fY.2.1 21 id, gA_sA_ne (by decide), gA_sA, if_pos rfl, if_pos rfl]
  · show gA Ma 22 dp = _
    rw [fY.2.1 22 id, gA_sA, if_pos rfl, if_pos rfl]
  · show gA Ma a (dp - 1) = _
    rw [fY.2.1 a id, gA_sA]
    by_cases e : a = 22
    · rw [if_pos e, if_neg (by omega), gA_sA_ne (by decide), fj.2.1 22 _ (by omega), e]
    · rw [if_neg e, gA_sA_ne (by omega), fj.2.1 a _ (by omega)]
  · exact ar _ _ (by decide) (by decide) (by decide) (by decide)
end CLS
