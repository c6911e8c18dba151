/-! SUMS AND TESTS: what is joined by signs: PRODUCT, SUM, BOTH, TEST -/
theorem loop_ext {α : Type} {F G : α → α} {z : α} (h : ∀ k, F k = G k) : ∀ w, loopN F z w = loopN G z w
  | 0 => rfl
  | w + 1 => by
    show F (loopN F z w) = G (loopN G z w)
    rw [loop_ext h w, h]
/-- the class's loop over signs -/
def gBody (n0 : Nat) (stepf : Int32 → Int32) (g : Mem → Option (Int32 × Mem)) (k12 : Int32 → Int32 → Mem → Option (Int32 × Mem)) (x1 x2 : Int32) (M : Mem) : Option (Int32 × Mem) :=
  if (1600 : Int32) ≤ x2 then some ((1 : Int32), M) else
  if stepf (gI M 386) = 0 then some ((1 : Int32), M) else
  (fX8_advance n0 M).bind fun z35 => (g z35).bind fun z40 =>
  if z40.1 = 0 then some ((0 : Int32), z40.2) else
  (fX0_add n0 (gR z40.2 257) (stepf (gI M 386)) z40.2).bind fun z53 => k12 x1 (x2 + (1 : Int32)) z53
theorem binL {n0 L s qf b c0 dp m bs op pw rl r D rl2 r2 D2 : Nat} {ta tb : Bool} {lx : List Int32} {ly : List (Int32 × Int32)} {MX MY : Mem} {x1 : Int32} (stepf opf : Int32 → Int32) (g : Mem → Option (Int32 × Mem)) (Qc : Int32 → Mem → Prop) (E2 : Mem → Mem → Prop) (Q2 : Mem → Mem → Mem → Prop) (hn : 1601 ≤ n0) (h : En L s qf b c0 dp m bs op pw lx ly MX MY)
    (hNx : ∀ MXc MYc sc k δ R lyc, St n0 L s qf b c0 dp m bs op pw lx ly MX MY rl r D ta MXc MYc sc k δ R lyc → Qc (gI MXc 386) MYc → ¬ stepf (gI MXc 386) = 0 → ∃ MX1 MY1 s1, Nx n0 L qf b c0 dp m bs op pw (lx ++ exL δ) (ly ++ δ) MXc MYc sc (c0 + ly.length) (opf (gI MXc 386)) MX1 MY1 s1 ∧ E2 MX1 MY1)
    (hIn : ∀ s1 lx1 ly1 MX1 MY1, En L s1 qf b c0 dp (m + 1) bs op (pw + 1) lx1 ly1 MX1 MY1 → gA MY1 26 m = opf (gI MY1 0) ∨ True → E2 MX1 MY1 → Ok n0 L s1 qf b c0 dp (m + 1) bs op (pw + 1) lx1 ly1 MX1 MY1 rl2 r2 D2 tb (Q2 MY1) (g MX1) ∨ Bad n0 s1 qf b c0 dp (m + 1) ly1 MX1 MY1 (g MX1))
    (hQc : ∀ MX1 MY1 MX2 MY2, E2 MX1 MY1 → FP b (c0 + ly.length) dp m MY1 MY2 → Q2 MY1 MX2 MY2 → Qc (gI MX2 386) MY2)
    (hop : ∀ k, ¬ stepf k = 0 → ¬ opf k = 43 ∧ ex1 (opf k, 0) = [stepf k] ∧ r ≤ rkI (opf k) ∧ ∀ st : List Bool, ty1 (opf k, 0) (tb :: ta :: st) = some (ta :: st)) (h259 : stepf 259 = 0) (hr2 : r ≤ r2) (hl : rl2 + 1 ≤ rl) (hD : D2 + 1 ≤ D) :
    ∀ (w j : Nat) MXc MYc sc k δ R lyc, St n0 L s qf b c0 dp m bs op pw lx ly MX MY rl r D ta MXc MYc sc k δ R lyc → Qc (gI MXc 386) MYc → j ≤ sc → 1600 < w + j →
      Ok n0 L s qf b c0 dp m bs op pw lx ly MX MY rl r D ta (fun MX' MY' => Qc (gI MX' 386) MY' ∧ stepf (gI MX' 386) = 0) (loopN (gBody n0 stepf g) (fun _ _ _ => none) w x1 (nI j) MXc) ∨ Bad n0 s qf b c0 dp m ly MX MY (loopN (gBody n0 stepf g) (fun _ _ _ => none) w x1 (nI j) MXc) := by
  intro w
  induction w with
  | zero =>
    intro j MXc MYc sc k δ R lyc hS hq hj hw
    have := (hS.len h).2.2.2
    omega
  | succ w ih =>
    intro j MXc MYc sc k δ R lyc hS hq hj hw
    have hsc := (hS.len h).2.2.2
    rw [lpS, gBody]
    by_cases hst : stepf (gI MXc 386) = 0
    · left
      refine ⟨MXc, MYc, sc, k, δ, R, lyc, ?_, hS, hq, hst⟩
      by_cases g1 : (1600 : Int32) ≤ nI j
      · exact eq_t g1 rfl
      · exact eq_f g1 (eq_t hst rfl)
    · have hjlt : j < 1600 := by
        rcases Nat.lt_or_ge j 1600 with q | q
        · exact q
        · exfalso
          have h1 := hS.2.2.2.1
          have h2 := h1.L16
          have h3 : ¬ gI MXc 386 = 259 := fun e => hst (by rw [e]; exact h259)
          have := h1.2.1.2.2.2.2.lt h3
          omega
      have g1 : ¬ (1600 : Int32) ≤ nI j := nI_ge (b := 1600) hjlt (by decide)
      obtain ⟨MX1, MY1, s1, hN, hE⟩ := hNx MXc MYc sc k δ R lyc hS hq hst
      obtain ⟨o1, o2, o3, o4⟩ := hop _ hst
      have hNN := hN
      obtain ⟨n1, n2, n3, n4, n5, n6, n7⟩ := hN
      rcases hIn s1 _ _ MX1 MY1 n4 (Or.inr trivial) hE with ⟨MX2, MY2, s2, k2, δ2, R2, ly2, er, hS2, hq2⟩ | hB
      · obtain ⟨ead, hS3⟩ := comb (rlc := rl) (tc := ta) (x := stepf (gI MXc 386)) hn h hS hNN hS2 o1 o2 ⟨o3, hr2⟩ hl o4 hD
        have hlen := List.length_append (as := ly) (bs := δ)
        have hqq := hQc MX1 MY1 MX2 MY2 hE (hS2.2.2.2.2.2.2.2.2.2.2.2.2.2.2.1.wk (by omega) (Nat.le_refl _) (by omega)) hq2
        have hg : gI (xAd qf (lx ++ exL δ ++ exL δ2).length (stepf (gI MXc 386)) MX2) 386 = gI MX2 386 := by
          have hq' := h.2.2.1
          unfold xAd
          rw [gI_ne (by omega)]
          rfl
        have hs3 := hS2.2.2.1
        have hr := ih (j + 1) _ MY2 s2 _ _ _ _ hS3 (by rw [hg]; exact hqq) (by omega) (by omega)
        refine Ok.nrm hr (fun v M _ e => ?_)
        exact eq_f g1 (eq_f hst (eq_b n1 (eq_b er (eq_f i10 (eq_b ead (by rw [nI_1]; exact e))))))
      · right
        have hlen := List.length_append (as := ly) (bs := δ)
        obtain ⟨a1, a2, a3, a4, a5, a6, a7, a8, a9, a10, a11, a12, a13, a14, a15, a16⟩ := hS
        refine badUp (k1 := 1 + k) (fun w => by rw [← Nat.add_assoc, a1, n2]) (by omega) (a14.tr n7.p) (a15.tr n6) (by omega) (Nat.le_refl _) (by omega) hB (fun M e => ?_)
        exact eq_f g1 (eq_f hst (eq_b n1 (eq_b e (eq_t rfl rfl))))
def pstep (k : Int32) : Int32 := if k = 37 then -11 else if k = 42 then -9 else if k = 47 then -10 else 0
def sstep (k : Int32) : Int32 := if k = 43 then -7 else if k = 45 then -8 else 0
theorem xpstep {n0 : Nat} {M : Mem} : fX3_productStep n0 M = some (pstep (gI M 386), M) := by
  unfold fX3_productStep pstep
  by_cases g1 : gI M 386 = 37
  · rw [if_pos g1, if_pos g1]
  rw [if_neg g1, if_neg g1]
  by_cases g2 : gI M 386 = 42
  · rw [if_pos g2, if_pos g2]
  rw [if_neg g2, if_neg g2]
  by_cases g3 : gI M 386 = 47
  · rw [if_pos g3, if_pos g3]
  rw [if_neg g3, if_neg g3]
theorem xsstep {n0 : Nat} {M : Mem} : fX3_sumStep n0 M = some (sstep (gI M 386), M) := by
  unfold fX3_sumStep sstep
  by_cases g1 : gI M 386 = 43
  · rw [if_pos g1, if_pos g1]
  rw [if_neg g1, if_neg g1]
  by_cases g2 : gI M 386 = 45
  · rw [if_pos g2, if_pos g2]
  rw [if_neg g2, if_neg g2]
theorem pstep_k {k : Int32} (h : ¬ pstep k = 0) : k = 37 ∨ k = 42 ∨ k = 47 := by
  unfold pstep at h
  by_cases g1 : k = 37
  · exact Or.inl g1
  rw [if_neg g1] at h
  by_cases g2 : k = 42
  · exact Or.inr (Or.inl g2)
  rw [if_neg g2] at h
  by_cases g3 : k = 47
  · exact Or.inr (Or.inr g3)
  rw [if_neg g3] at h
  exact absurd rfl h
theorem sstep_k {k : Int32} (h : ¬ sstep k = 0) : k = 43 ∨ k = 45 := by
  unfold sstep at h
  by_cases g1 : k = 43
  · exact Or.inl g1
  rw [if_neg g1] at h
  by_cases g2 : k = 45
  · exact Or.inr g2
  rw [if_neg g2] at h
  exact absurd rfl h
theorem gb_prod {n0 : Nat} {rec : Nat → Int32 → Int32 → Mem → Option (Int32 × Mem)} {x1 : Int32} (k : Int32 → Int32 → Mem → Option (Int32 × Mem)) (x2 : Int32) (M : Mem) : bX3_readProduct_12 n0 rec k x1 x2 M = gBody n0 pstep (fun M => rec 2 x1 0 M) k x1 x2 M := by
  unfold bX3_readProduct_12 gBody
  by_cases g1 : (1600 : Int32) ≤ x2
  · rw [if_pos g1, if_pos g1]
  rw [if_neg g1, if_neg g1]
  refine eq_b xpstep ?_
  by_cases g2 : pstep (gI M 386) = 0
  · exact eq_t g2 (if_pos g2).symm
  exact eq_f g2 (eq_b xpstep (if_neg g2).symm)
theorem gb_sum {n0 : Nat} {rec : Nat → Int32 → Int32 → Mem → Option (Int32 × Mem)} {x1 : Int32} (k : Int32 → Int32 → Mem → Option (Int32 × Mem)) (x2 : Int32) (M : Mem) : bX3_readSum_12 n0 rec k x1 x2 M = gBody n0 sstep (fun M => rec 1 x1 0 M) k x1 x2 M := by
  unfold bX3_readSum_12 gBody
  by_cases g1 : (1600 : Int32) ≤ x2
  · rw [if_pos g1, if_pos g1]
  rw [if_neg g1, if_neg g1]
  refine eq_b xsstep ?_
  by_cases g2 : sstep (gI M 386) = 0
  · exact eq_t g2 (if_pos g2).symm
  exact eq_f g2 (eq_b xsstep (if_neg g2).symm)
/-- loops whose bodies agree at one first argument -/
theorem loop_ext1 {F G : (Int32 → Int32 → Mem → Option (Int32 × Mem)) → Int32 → Int32 → Mem → Option (Int32 × Mem)} {z : Int32 → Int32 → Mem → Option (Int32 × Mem)} {x1 : Int32} (h : ∀ k x2 M, F k x1 x2 M = G k x1 x2 M) (hG : ∀ k k' x2 M, (∀ y N, k x1 y N = k' x1 y N) → G k x1 x2 M = G k' x1 x2 M) : ∀ w x2 M, loopN F z w x1 x2 M = loopN G z w x1 x2 M
  | 0, _, _ => rfl
  | w + 1, x2, M => by
    show F (loopN F z w) x1 x2 M = G (loopN G z w) x1 x2 M
    rw [h]
    exact hG _ _ _ _ (fun y N => loop_ext1 h hG w y N)
theorem gBody_k {n0 : Nat} {stepf : Int32 → Int32} {g : Mem → Option (Int32 × Mem)} {x1 : Int32} (k k' : Int32 → Int32 → Mem → Option (Int32 × Mem)) (x2 : Int32) (M : Mem) (h : ∀ y N, k x1 y N = k' x1 y N) : gBody n0 stepf g k x1 x2 M = gBody n0 stepf g k' x1 x2 M := by
  unfold gBody
  simp only [h]
def SProd (n0 L b c0 op : Nat) (g : Mem → Option (Int32 × Mem)) : Prop := ∀ s qf dp m bs pw lx ly MX MY, En L s qf b c0 dp m bs op pw lx ly MX MY → NF dp MX MY → (m = bs ∨ rkI (gA MY 26 (m - 1)) < 6) → m ≤ 30 * op + 5 → Ok n0 L s qf b c0 dp m bs op pw lx ly MX MY 1 6 (DP op + 1) false (fun MX' MY' => QPart dp MY MX' MY' ∧ pstep (gI MX' 386) = 0) (g MX) ∨ Bad n0 s qf b c0 dp m ly MX MY (g MX)
theorem St.wk {n0 L s qf b c0 dp m bs op pw rl r D rl' r' D' : Nat} {t : Bool} {lx : List Int32} {ly : List (Int32 × Int32)} {MX MY MX' MY' : Mem} {s' k : Nat} {δ : List (Int32 × Int32)} {R : List Int32} {ly' : List (Int32 × Int32)} (h : St n0 L s qf b c0 dp m bs op pw lx ly MX MY rl r D t MX' MY' s' k δ R ly') (h1 : rl ≤ rl') (h2 : r' ≤ r) (h3 : D ≤ D') : St n0 L s qf b c0 dp m bs op pw lx ly MX MY rl' r' D' t MX' MY' s' k δ R ly' := by
  obtain ⟨a1, a2, a3, a4, a5, a6, a7, a8, a9, a10, a11, a12, a13, a14, a15, a16⟩ := h
  exact ⟨a1, a2, a3, a4, a5, a6, a7, fun o ho => Nat.le_trans h2 (a8 o ho), by omega, a10, a11, fun st hst => a12 st (by omega), a13, a14, a15, a16⟩
theorem prodP {n0 L b c0 op : Nat} {rec : Nat → Int32 → Int32 → Mem → Option (Int32 × Mem)} (hn : 1601 ≤ n0) (hP : SPart n0 L b c0 op (fun _ => True) (fun M => rec 2 (nI op) 0 M)) : SProd n0 L b c0 op (fun M => fX3_readProduct n0 rec (nI op) M) := by
  intro s qf dp m bs pw lx ly MX MY h hN hoc hm
  have hbs := h.2.2.2.2.1.2.2.2.2.2.1
  have hop7 : op ≤ 7 := h.2.2.2.2.1.2.2.2.2.2.2.2.2.2.2.2.2
  have hdp := h.2.2.2.2.1.2.2.2.1
  show Ok n0 L s qf b c0 dp m bs op pw lx ly MX MY 1 6 (DP op + 1) false (fun MX' MY' => QPart dp MY MX' MY' ∧ pstep (gI MX' 386) = 0) (fX3_readProduct n0 rec (nI op) MX) ∨ Bad n0 s qf b c0 dp m ly MX MY (fX3_readProduct n0 rec (nI op) MX)
  unfold fX3_readProduct fX3_readProduct_12
  rcases hP s qf dp m bs pw lx ly MX MY h trivial hN (by omega) with ⟨MX1, MY1, s1, k1, δ, R, ly1, er, hS, hq⟩ | ⟨MXf, MYf, kk, er, hB⟩
  rotate_left
  · exact Or.inr ⟨MXf, MYf, kk, eq_b er (eq_t rfl rfl), hB⟩
  have key := binL (x1 := nI op) (rl := 1) (r := 6) (D := DP op + 1) (rl2 := 0) (r2 := 6) (D2 := DP op) (ta := false) (tb := false) pstep opOf (fun M => rec 2 (nI op) 0 M) (fun _ MYc => gA MYc 22 (dp - 1) = gA MY 22 (dp - 1) ∧ gA MYc 23 (dp - 1) = 0) (fun _ MY1 => gA MY1 22 (dp - 1) = gA MY 22 (dp - 1) ∧ gA MY1 23 (dp - 1) = 0) (fun MY1 MX2 MY2 => QPart dp MY1 MX2 MY2) hn h
    (fun MXc MYc sc k δ R lyc hS hqc hst => by
      have hk := pstep_k hst
      have hl : (6 : Nat) = if gI MXc 386 = 43 ∨ gI MXc 386 = 45 then 5 else 6 := by rcases hk with q | q | q <;> rw [q] <;> decide
      obtain ⟨MX1, MY1, s1, hN', e1, e2⟩ := nxA (least := 6) hn h hS (by rcases hk with q | q | q <;> rw [q] <;> decide) hl (Nat.le_refl _) (by rw [hqc.1]; exact hN.2) (by omega) hoc (by omega)
      exact ⟨MX1, MY1, s1, hN', e1.trans hqc.1, e2.trans hqc.2⟩)
    (fun s1 lx1 ly1 MX1 MY1 hE _ hE2 => hP s1 qf dp (m + 1) bs (pw + 1) lx1 ly1 MX1 MY1 hE trivial ⟨Or.inr (Or.inl hE2.2), by rw [hE2.1]; exact hN.2⟩ (by omega))
    (fun MX1 MY1 MX2 MY2 hE2 _ hq2 => ⟨hq2.1.trans hE2.1, hq2.2⟩)
    (fun k hk => by
      rcases pstep_k hk with q | q | q
      · rw [q]; exact ⟨by decide, by decide, by decide, fun st => rfl⟩
      · rw [q]; exact ⟨by decide, by decide, by decide, fun st => rfl⟩
      · rw [q]; exact ⟨by decide, by decide, by decide, fun st => rfl⟩) (by decide) (Nat.le_refl _) (by decide) (Nat.le_refl _) n0 0 MX1 MY1 s1 k1 δ R ly1 (hS.wk (by decide) (Nat.le_refl _) (by omega)) hq (Nat.zero_le _) (by omega)
  refine Ok.nrm key (fun v M _ e => eq_b er (eq_f i10 ?_))
  rw [show (0 : Int32) = nI 0 from rfl, loop_ext1 (G := gBody n0 pstep (fun M => rec 2 (nI op) 0 M)) (fun k x2 M => gb_prod k x2 M) (fun k k' x2 M hk => gBody_k k k' x2 M hk)]
  exact e
theorem sumP {n0 L b c0 op : Nat} {rec : Nat → Int32 → Int32 → Mem → Option (Int32 × Mem)} (hn : 1601 ≤ n0) (hP : SProd n0 L b c0 op (fun M => rec 1 (nI op) 0 M)) : SSum n0 L b c0 op (fun M => fX3_readSum n0 rec (nI op) M) := by
  intro s qf dp m bs pw lx ly MX MY h hN hoc hm
  have hbs := h.2.2.2.2.1.2.2.2.2.2.1
  have hop7 : op ≤ 7 := h.2.2.2.2.1.2.2.2.2.2.2.2.2.2.2.2.2
  have hdp := h.2.2.2.2.1.2.2.2.1
  show Ok n0 L s qf b c0 dp m bs op pw lx ly MX MY 2 5 (DP op + 2) false (QSum dp MY) (fX3_readSum n0 rec (nI op) MX) ∨ Bad n0 s qf b c0 dp m ly MX MY (fX3_readSum n0 rec (nI op) MX)
  unfold fX3_readSum fX3_readSum_12
  rcases hP s qf dp m bs pw lx ly MX MY h hN (by rcases hoc with q | q; exact Or.inl q; exact Or.inr (by omega)) (by omega) with ⟨MX1, MY1, s1, k1, δ, R, ly1, er, hS, hq⟩ | ⟨MXf, MYf, kk, er, hB⟩
  rotate_left
  · exact Or.inr ⟨MXf, MYf, kk, eq_b er (eq_t rfl rfl), hB⟩
  have key := binL (x1 := nI op) (rl := 2) (r := 5) (D := DP op + 2) (rl2 := 1) (r2 := 6) (D2 := DP op + 1) (ta := false) (tb := false) sstep opOf (fun M => rec 1 (nI op) 0 M) (fun kd MYc => (gA MYc 22 (dp - 1) = gA MY 22 (dp - 1) ∧ gA MYc 23 (dp - 1) = 0) ∧ pstep kd = 0) (fun _ MY1 => (gA MY1 22 (dp - 1) = gA MY 22 (dp - 1) ∧ gA MY1 23 (dp - 1) = 0) ∧ rkI (gA MY1 26 m) < 6) (fun MY1 MX2 MY2 => QPart dp MY1 MX2 MY2 ∧ pstep (gI MX2 386) = 0) hn h
    (fun MXc MYc sc k δ R lyc hS hqc hst => by
      have hk := sstep_k hst
      have hl : (5 : Nat) = if gI MXc 386 = 43 ∨ gI MXc 386 = 45 then 5 else 6 := by rcases hk with q | q <;> rw [q] <;> decide
      obtain ⟨MX1, MY1, s1, hN', e1, e2⟩ := nxA (least := 5) hn h hS (by rcases hk with q | q <;> rw [q] <;> decide) hl (Nat.le_refl _) (by rw [hqc.1.1]; exact hN.2) (by omega) hoc (by omega)
      refine ⟨MX1, MY1, s1, hN', ⟨e1.trans hqc.1.1, e2.trans hqc.1.2⟩, ?_⟩
      rw [hN'.2.2.2.2.1]
      rcases hk with q | q <;> rw [q] <;> decide)
    (fun s1 lx1 ly1 MX1 MY1 hE _ hE2 => hP s1 qf dp (m + 1) bs (pw + 1) lx1 ly1 MX1 MY1 hE ⟨Or.inr (Or.inl hE2.1.2), by rw [hE2.1.1]; exact hN.2⟩ (Or.inr (by rw [Nat.add_sub_cancel]; exact hE2.2)) (by omega))
    (fun MX1 MY1 MX2 MY2 hE2 _ hq2 => ⟨⟨hq2.1.1.trans hE2.1.1, hq2.1.2⟩, hq2.2⟩)
    (fun k hk => by
      rcases sstep_k hk with q | q
      · rw [q]; exact ⟨by decide, by decide, by decide, fun st => rfl⟩
      · rw [q]; exact ⟨by decide, by decide, by decide, fun st => rfl⟩) (by decide) (by decide) (by decide) (Nat.le_refl _) n0 0 MX1 MY1 s1 k1 δ R ly1 (hS.wk (by decide) (by decide) (by omega)) hq (Nat.zero_le _) (by omega)
  have key2 : Ok n0 L s qf b c0 dp m bs op pw lx ly MX MY 2 5 (DP op + 2) false (QSum dp MY) (loopN (gBody n0 sstep (fun M => rec 1 (nI op) 0 M)) (fun _ _ _ => none) n0 (nI op) (nI 0) MX1) ∨ Bad n0 s qf b c0 dp m ly MX MY (loopN (gBody n0 sstep (fun M => rec 1 (nI op) 0 M)) (fun _ _ _ => none) n0 (nI op) (nI 0) MX1) := by
    rcases key with ⟨A, B, C, D', E', F', G', q1, q2, q3, q4⟩ | q
    · refine Or.inl ⟨A, B, C, D', E', F', G', q1, q2, q3.1, fun g => ?_⟩
      have p0 := q3.2
      rcases g with g | g | g | g | g <;> (rw [g] at p0 q4; revert p0 q4; decide)
    · exact Or.inr q
  refine Ok.nrm key2 (fun v M _ e => eq_b er (eq_f i10 ?_))
  rw [show (0 : Int32) = nI 0 from rfl, loop_ext1 (G := gBody n0 sstep (fun M => rec 1 (nI op) 0 M)) (fun k x2 M => gb_sum k x2 M) (fun k k' x2 M hk => gBody_k k k' x2 M hk)]
  exact e
