/-! SUMS AND TESTS: min, max, if -/
/-- inside a frame of the outer PART -/
def Inr (n0 L s qf b c0 dp m bs op pw : Nat) (ly : List (Int32 × Int32)) (MX MY : Mem) (wh kf : Int32) (lxi : List Int32) (lyi : List (Int32 × Int32)) (MXi MYi : Mem) (si k : Nat) : Prop :=
  (∀ w, YLp n0 (w + k) MY = YLp n0 w MYi) ∧ s + k ≤ si ∧ FPx qf MX MXi ∧ FP b (c0 + ly.length) dp m MY MYi ∧ En L si qf b c0 (dp + 1) m m (op + 1) pw lxi lyi MXi MYi ∧ gA MYi 21 dp = kf ∧ gA MYi 24 dp = wh ∧ gA MYi 22 dp = 0 ∧ gA MYi 22 (dp - 1) = gA MY 22 (dp - 1) ∧ gA MYi 23 (dp - 1) = 0 ∧ ly.length ≤ lyi.length ∧ gA MYi 25 (dp - 1) = nI bs
section IN
variable {n0 L s qf b c0 dp m bs op pw : Nat} {ly : List (Int32 × Int32)} {MX MY : Mem} {wh : Int32} {lxi : List Int32} {lyi : List (Int32 × Int32)} {MXi MYi : Mem} {si k : Nat}
theorem badOp2 {kk : Nat} {p r : Int32} {lx : List Int32} {MXa M1 : Mem} {rx : Option (Int32 × Mem)} (h : En L s qf b c0 dp m bs op pw lx ly MX MY) (h1 : 1 ≤ kk) (h6 : kk ≤ 6) (hr : r = 0 ∨ r = 1) (hx : rx = some (0, sI (sI MXa 391 (nI kk)) 392 p)) (fx : FPx qf MX MXa) (hf : FP b (c0 + ly.length) dp m MY M1) (hy : fX12_operand n0 MY = some (r, sI (sI M1 8 (nI kk)) 9 p)) : Bad n0 s qf b c0 dp m ly MX MY rx := by
  have n8 : ¬ gI (sI (sI M1 8 (nI kk)) 9 p) 8 = 0 := pos_ne (n8f h1 h6)
  have := h.sL
  refine ⟨_, sI (sI (sI M1 8 (nI kk)) 9 p) 45 r, 2, hx, fun w => ylopF h.2.2.2.2.2.2.2.2.2.2 hr hy n8, by omega, ?_, fx.tr FIf.p, ((hf.i (by unfold pInt; omega)).i (by unfold pInt; omega)).i (by unfold pInt; omega)⟩
  exact (Flt.mk (MX := MXa) (MY := M1) (p := p) h1 h6).cong rfl rfl (gI_ne (by decide)) (gI_ne (by decide))
theorem yopensF {k : Int32} {M : Mem} (h : ¬ gI M 8 ≤ 0) : fX12_opens n0 k M = some M := by
  unfold fX12_opens fX12_opens_18
  by_cases g : gI M 42 = 7
  · exact eq_t g (eq_b (yblame1 h) (eq_f h rfl))
  · exact eq_f g (eq_f h rfl)
theorem y276F {x : Int32} {M : Mem} (h : ¬ gI M 8 ≤ 0) : fX12_operand_276 n0 x M = some (0, M) := by
  unfold fX12_operand_276 fX12_operand_289
  by_cases g : x = 44
  · exact eq_t g (eq_b (yopensF h) (eq_f (pos_ne h) rfl))
  · exact eq_f g (eq_b (yopensF h) (eq_f (pos_ne h) rfl))
theorem kwOpen {lx : List Int32} (hn : 1601 ≤ n0) (h : En L s qf b c0 dp m bs op pw lx ly MX MY) (hk : gI MX 386 = 283 ∨ gI MX 386 = 284 ∨ gI MX 386 = 278) (hN : NF dp MX MY) (hwh : wh = if gI MX 386 = 283 then 36 else if gI MX 386 = 284 then 37 else 44) :
    (∃ MXa MXf, fX8_advance n0 MX = some MXa ∧ fX3_goIn n0 40 (nI op) MXa = some (0, MXf) ∧ ∀ rx, rx = some ((0 : Int32), MXf) → Bad n0 s qf b c0 dp m ly MX MY rx) ∨
    (op < 7 ∧ ∃ MXa MX1 MY1 s1, fX8_advance n0 MX = some MXa ∧ fX3_goIn n0 40 (nI op) MXa = some (1, MX1) ∧ Inr n0 L s qf b c0 dp m bs op pw ly MX MY wh (if wh = 44 then 6 else 3) lx ly MX1 MY1 s1 1 ∧ gA MY1 23 dp = 1) := by
  have hh := h
  obtain ⟨hP, h257, hq, hxl, hYP, h258, hdo, hmp, hcs, hll, h45⟩ := h
  have hb : ¬ gI MX 386 = 258 := by rcases hk with e | e | e <;> rw [e] <;> decide
  have hb9 : ¬ gI MX 386 = 259 := by rcases hk with e | e | e <;> rw [e] <;> decide
  have hs := hP.2.1.2.2.2.2.lt hb9
  have hdp := hYP.2.2.2.1
  have hop7 : op ≤ 7 := hYP.2.2.2.2.2.2.2.2.2.2.2.2
  have hP1 : PR L s MX (sA MY 23 (dp - 1) 0) := hP.ar (by decide)
  have hY1 : YP b c0 dp m bs op [] ly (sA MY 23 (dp - 1) 0) := hYP.cong (fun k _ => rfl) (fun a ha => gA_sA_ne (by omega))
  have f1 : FP b (c0 + ly.length) dp m MY (sA MY 23 (dp - 1) 0) := FP.r.a (by unfold pReg; omega)
  have hy : fX12_operand n0 MY = fX12_operand_249 n0 wh (sA MY 23 (dp - 1) 0) := by rw [yop171 hP hb hYP.2.2.1 hdp hN.1, y171w hP1 hk, hwh]
  obtain ⟨MXa, Ma, s1, ax, ay, hs1, hPa, fx, fy⟩ := hP1.adv hn hs
  have fY := fy.Y
  have fx' : FI 386 392 MX MXa := fx.wk (by decide) (by decide)
  have hYa := hY1.tok fY
  have fa : FP b (c0 + ly.length) dp m MY Ma := f1.tr fY.p
  by_cases hc : gI MXa 386 = 40
  rotate_left
  · left
    refine ⟨MXa, _, ax, xgoN hc, fun rx hrx => badOp2 (kk := 1) (r := 0) (p := gI MXa 388) (M1 := Ma) hh (by decide) (by decide) (Or.inl rfl) hrx fx'.p fa ?_⟩
    rw [hy]
    have n1 : ¬ gI (sI (sI Ma 8 1) 9 (gI MXa 388)) 8 ≤ 0 := n8f (k := 1) (by decide) (by decide)
    unfold fX12_operand_249
    refine eq_b ay ?_
    by_cases hb' : gI MXa 386 = 258
    · refine eq_b (ylexB hPa hb') ?_
      rcases ySign2 (n0 := n0) (c := 40) (M := sI (sI Ma 8 1) 9 (gI MXa 388)) with q | q
      · exact eq_b q (eq_t rfl (eq_b (yblame1 n1) (y276F n1)))
      · exact eq_b q (eq_f i10 (y276F n1))
    · refine eq_b (ylexG hPa hb') (eq_b (ySign (by decide) hPa) (eq_t (bI_f hc) (eq_b (yblame0 hPa.f8) ?_)))
      rw [show gI (bI (gI MXa 386 = 40), Ma).2 4 = gI MXa 388 from hPa.at_.trans (hPa.pl hb').symm]
      exact y276F n1
  have hb' : ¬ gI MXa 386 = 258 := by rw [hc]; decide
  have e249 : ∀ r, fX12_operand_276 n0 wh Ma = r → fX12_operand n0 MY = r := fun r hr => by
    rw [hy]
    unfold fX12_operand_249
    exact eq_b ay (eq_b (ylexG hPa hb') (eq_b (ySign (by decide) hPa) (eq_f (bz hc) hr)))
  by_cases h7 : op = 7
  · left
    refine ⟨MXa, _, ax, xgo5 h7 hc, fun rx hrx => badOp2 (kk := 5) (r := 0) (p := nI s1) (M1 := Ma) hh (by decide) (by decide) (Or.inl rfl) (by rw [hrx, hPa.st]; rfl) fx'.p fa (e249 _ ?_)⟩
    have h42 : gI Ma 42 = 7 := by rw [hYa.2.2.2.2.2.2.2.2.2.2.2.1, h7]; rfl
    have n5 : ¬ gI (sI (sI Ma 8 5) 9 (nI s1)) 8 = 0 := pos_ne (n8f (k := 5) (by decide) (by decide))
    unfold fX12_operand_276 fX12_operand_289
    by_cases g : wh = 44
    · exact eq_t g (eq_b (opF hPa h42) (eq_f n5 rfl))
    · exact eq_f g (eq_b (opF hPa h42) (eq_f n5 rfl))
  right
  have h7' : op < 7 := by omega
  obtain ⟨MX1, M', s2, ax2, eo, hs2, m8, m41, hE1, fx1, fp1, k21, k22, k23, p22, p23⟩ := openEn (kk := if wh = 44 then 6 else 3) (fun M => sA M 24 dp wh) hn hh hPa (by omega) fx' hYa fa (hPa.2.1.2.2.2.2.lt (by rw [hc]; decide)) h7' (fun _ _ => rfl) (fun _ => rfl) (fun _ _ ha => gA_sA_ne ha) (fun M => FP.r.a (by unfold pReg; omega))
  have o41 : gI M' 41 - 1 = nI dp := by
    rw [m41]
    exact nI_subN (a := dp + 1) (b := 1) (by omega)
  have e276 : fX12_operand_276 n0 wh Ma = some (0, sA M' 24 dp wh) := by
    have e289 : ∀ u, u = (if wh = 44 then (6 : Int32) else 3) → fX12_operand_289 n0 wh u Ma = some (0, sA M' 24 dp wh) := fun u eu => by
      subst eu
      unfold fX12_operand_289
      refine eq_b eo (eq_t m8 (eq_f (by rw [o41]; exact nI_in (by omega) (by decide)) ?_))
      rw [o41, nI_clamp (by omega)]
    unfold fX12_operand_276
    by_cases g : wh = 44
    · exact eq_t g (e289 _ (by rw [if_pos g]))
    · exact eq_f g (e289 _ (by rw [if_neg g]))
  have hYb := hE1.2.2.2.2.1
  refine ⟨h7', MXa, MX1, sI (sA M' 24 dp wh) 45 0, s2, ax, xgo1 h7' hc ax2, ⟨fun w => ylop h45 (Or.inl rfl) (e249 _ e276) m8, by omega, fx1, fp1, hE1, ?_, ?_, ?_, ?_, ?_, Nat.le_refl _, ?_⟩, ?_⟩
  · show gA (sA M' 24 dp wh) 21 dp = _
    rw [gA_sA_ne (by decide)]; exact k21
  · show gA (sA M' 24 dp wh) 24 dp = _
    rw [gA_sA, if_pos rfl, if_pos rfl]
  · show gA (sA M' 24 dp wh) 22 dp = _
    rw [gA_sA_ne (by decide)]; exact k22
  · show gA (sA M' 24 dp wh) 22 (dp - 1) = _
    rw [gA_sA_ne (by decide), p22, fY.2.1 22 id, gA_sA_ne (by decide)]
  · show gA (sA M' 24 dp wh) 23 (dp - 1) = _
    rw [gA_sA_ne (by decide), p23, fY.2.1 23 id, gA_sA, if_pos rfl, if_pos rfl]
  · rw [fp1.2.1 25 (dp - 1) (by unfold pReg; omega)]
    exact hYP.2.2.2.2.1
  · show gA (sA M' 24 dp wh) 23 dp = _
    rw [gA_sA_ne (by decide)]; exact k23
/-- one part of a frame and the sign behind it: a comma -/
theorem inrC {rl r D : Nat} {t : Bool} {kf : Int32} {Q : Mem → Mem → Prop} {g : Mem → Option (Int32 × Mem)} (hn : 1601 ≤ n0) (hI : Inr n0 L s qf b c0 dp m bs op pw ly MX MY wh kf lxi lyi MXi MYi si k) (hk4 : kf = 3 ∨ kf = 6) (hr : 1 ≤ r) (hdp : 1 ≤ dp) (hS : Ok n0 L si qf b c0 (dp + 1) m m (op + 1) pw lxi lyi MXi MYi rl r D t Q (g MXi) ∨ Bad n0 si qf b c0 (dp + 1) m lyi MXi MYi (g MXi)) (hQ : ∀ MX' MY', gA MY' 21 dp = kf → Q MX' MY' → (¬ ari (gI MX' 386) ∨ (2 : Int32) ≤ gA MY' 22 dp) ∧ (¬ isT kf ∨ (¬ gA MY' 22 dp = 0 ∧ ¬ gI MX' 386 = 280 ∧ ¬ gI MX' 386 = 279))) :
    (∃ MXf, g MXi = some (0, MXf) ∧ ∀ rx, rx = some ((0 : Int32), MXf) → Bad n0 s qf b c0 dp m ly MX MY rx) ∨ (∃ MX2 MXf, g MXi = some (1, MX2) ∧ fX8_skip n0 44 MX2 = some (0, MXf) ∧ ∀ rx, rx = some ((0 : Int32), MXf) → Bad n0 s qf b c0 dp m ly MX MY rx) ∨
    (∃ MX2 MX3 MY3 s3 k3 δ, g MXi = some (1, MX2) ∧ fX8_skip n0 44 MX2 = some (1, MX3) ∧ (∀ st, st.length + D ≤ 60 → tyL δ st = some (t :: st)) ∧ 0 < δ.length ∧ Inr n0 L s qf b c0 dp m bs op pw ly MX MY wh (if kf = 3 then 4 else 3) (lxi ++ exL δ) (lyi ++ δ) MX3 MY3 s3 k3) := by
  obtain ⟨i1, i2, i3, i4, i5, i6, i7, i8, i9, i10', i11, i12⟩ := hI
  rcases hS with ⟨MX2, MY2, s2, k2, δ, R, ly2, er, hSt, hq⟩ | hB
  rotate_left
  · obtain ⟨MXf, MYf, kk, e, r1, r2, r3, r4, r5⟩ := hB
    exact Or.inl ⟨MXf, e, fun rx hrx => badUp (k1 := k) i1 i2 i3 i4 i11 (by omega) (Nat.le_refl _) (rx := g MXi) ⟨MXf, MYf, kk, e, r1, r2, r3, r4, r5⟩ (fun M eM => by rw [hrx]; rw [e] at eM; exact eM)⟩
  right
  have hSS := hSt
  obtain ⟨hlen1, hlen2, hlen3, hlen4⟩ := hSt.len i5
  obtain ⟨a1, a2, a3, a4, a5, a6, a7, a8, a9, a10, a11, a12, a13, a14, a15, a16⟩ := hSt
  have f21 : gA MY2 21 dp = kf := (a15.2.1 21 dp (by unfold pReg; omega)).trans i6
  obtain ⟨hc1, hc2⟩ := hQ MX2 MY2 f21 hq
  have fpA : FP b (c0 + ly.length) dp m MY MY2 := i4.tr (a15.wk (by omega) (by omega) (Nat.le_refl _))
  have hwA : ∀ w, YLp n0 (w + (k2 + k)) MY = YLp n0 w MY2 := fun w => by rw [← Nat.add_assoc, i1, a1]
  have hen : endOf kf = 44 := by rcases hk4 with q | q <;> rw [q] <;> rfl
  by_cases hc : gI MX2 386 = 44
  · right
    obtain ⟨MX3, MY3, s3, sk, hw3, hs3, hE3, fx3, fp3, g21, g22, g3, g24⟩ := commaP (kf := kf) hn i5 hSS hr f21 hk4 hc (by
      rcases hc2 with q | q
      · exact Or.inl q
      · exact Or.inr q.1) hdp
    refine ⟨MX2, MX3, MY3, s3, 1 + (k2 + k), δ, er, sk, a12, a13, fun w => ?_, by omega, (i3.tr a14).tr fx3.p, fpA.tr (fp3.wk (by omega) (Nat.le_refl _) (Nat.le_refl _)), hE3, g21, ?_, g22, ?_, ?_, ?_, ?_⟩
    · rw [← Nat.add_assoc, hwA, hw3]
    · rw [g24, a15.2.1 24 dp (by unfold pReg; omega)]; exact i7
    · rw [g3 22 (by omega), a15.2.1 22 (dp - 1) (by unfold pReg; omega)]; exact i9
    · rw [g3 23 (by omega), a15.2.1 23 (dp - 1) (by unfold pReg; omega)]; exact i10'
    · rw [List.length_append]; omega
    · rw [g3 25 (by omega), a15.2.1 25 (dp - 1) (by unfold pReg; omega)]; exact i12
  · left
    obtain ⟨sk, go⟩ := endBad (n0 := n0) (dq := dp + 1) (kf := kf) a4 (by rw [Nat.add_sub_cancel]; exact f21) (by rcases hk4 with q | q <;> rw [q] <;> decide) (by rw [hen]; exact hc) (by rw [Nat.add_sub_cancel]; exact hc1) (by rw [Nat.add_sub_cancel]; exact hc2) a6.2.2.1 a6.2.2.2.1
    rw [hen] at sk
    exact ⟨MX2, _, er, sk, fun rx hrx => badGo hwA (by omega) hlen4 (i3.tr a14) fpA a11 hrx go⟩
/-- the last part of a frame -/
theorem inrE {g : Mem → Option (Int32 × Mem)} (hn : 1601 ≤ n0) (hI : Inr n0 L s qf b c0 dp m bs op pw ly MX MY wh 4 lxi lyi MXi MYi si k) (hdp : 1 ≤ dp) (hb : bs ≤ m) (hS : Ok n0 L si qf b c0 (dp + 1) m m (op + 1) pw lxi lyi MXi MYi 2 5 (DP (op + 1) + 2) false (QSum (dp + 1) MYi) (g MXi) ∨ Bad n0 si qf b c0 (dp + 1) m lyi MXi MYi (g MXi)) :
    (∃ MXf, g MXi = some (0, MXf) ∧ ∀ rx, rx = some ((0 : Int32), MXf) → Bad n0 s qf b c0 dp m ly MX MY rx) ∨ (∃ MX2 MXf, g MXi = some (1, MX2) ∧ fX8_skip n0 41 MX2 = some (0, MXf) ∧ ∀ rx, rx = some ((0 : Int32), MXf) → Bad n0 s qf b c0 dp m ly MX MY rx) ∨
    (∃ MX2 MX3 MY3 s3 k3 δ, g MXi = some (1, MX2) ∧ fX8_skip n0 41 MX2 = some (1, MX3) ∧ (∀ st, st.length + (DP (op + 1) + 2) ≤ 60 → tyL δ st = some (false :: st)) ∧ 0 < δ.length ∧ (∀ w, YLp n0 (w + k3) MY = YLp n0 w MY3) ∧ (s + k3 ≤ s3 ∧ s < s3) ∧ PR L s3 MX3 MY3 ∧ xlist MX3 qf (lxi ++ exL δ) ∧ YP b c0 dp m bs op [] (lyi ++ δ ++ [(wh, 0)]) MY3 ∧ c0 + (lxi ++ exL δ).length + pw < s3 ∧ gI MY3 45 = 1 ∧ FPx qf MX MX3 ∧ FP b (c0 + ly.length) dp m MY MY3 ∧ gA MY3 22 (dp - 1) = gA MY 22 (dp - 1) ∧ gA MY3 23 (dp - 1) = 0 ∧ gR MX3 257 = qf ∧ (lxi ++ exL δ).length < 1600) := by
  obtain ⟨i1, i2, i3, i4, i5, i6, i7, i8, i9, i10', i11, i12⟩ := hI
  rcases hS with ⟨MX2, MY2, s2, k2, δ, R, ly2, er, hSt, hq⟩ | hB
  rotate_left
  · obtain ⟨MXf, MYf, kk, e, r1, r2, r3, r4, r5⟩ := hB
    exact Or.inl ⟨MXf, e, fun rx hrx => badUp (k1 := k) i1 i2 i3 i4 i11 (by omega) (Nat.le_refl _) (rx := g MXi) ⟨MXf, MYf, kk, e, r1, r2, r3, r4, r5⟩ (fun M eM => by rw [hrx]; rw [e] at eM; exact eM)⟩
  right
  have hSS := hSt
  obtain ⟨hlen1, hlen2, hlen3, hlen4⟩ := hSt.len i5
  obtain ⟨a1, a2, a3, a4, a5, a6, a7, a8, a9, a10, a11, a12, a13, a14, a15, a16⟩ := hSt
  have f21 : gA MY2 21 dp = 4 := (a15.2.1 21 dp (by unfold pReg; omega)).trans i6
  have fpA : FP b (c0 + ly.length) dp m MY MY2 := i4.tr (a15.wk (by omega) (by omega) (Nat.le_refl _))
  have hwA : ∀ w, YLp n0 (w + (k2 + k)) MY = YLp n0 w MY2 := fun w => by rw [← Nat.add_assoc, i1, a1]
  have b25 : gA MY2 25 (dp - 1) = nI bs := (a15.2.1 25 _ (by unfold pReg; omega)).trans i12
  have w24 : gA MY2 24 dp = wh := (a15.2.1 24 dp (by unfold pReg; omega)).trans i7
  have hq0 := i5.2.2.1
  by_cases hc : gI MX2 386 = 41
  · right
    obtain ⟨MX3, MY3, s3, sk, hw3, hs3, hP3, yp3, g45, fx3, fp3, g22, g23⟩ := closeP (kf := 4) (bs := bs) hn i5 hSS (by decide) f21 (Or.inr (Or.inl rfl)) hc (Or.inl (by decide)) hdp b25 hb
    rw [w24] at yp3
    refine ⟨MX2, MX3, MY3, s3, 1 + (k2 + k), δ, er, sk, a12, a13, fun w => ?_, ⟨by omega, by omega⟩, hP3, a5.fi fx3 hq0, by simpa [xtra] using yp3, by omega, g45, (i3.tr a14).tr fx3.p, fpA.tr (fp3.wk (by omega) (Nat.le_refl _) (Nat.le_refl _)), ?_, ?_, ?_, ?_⟩
    · rw [← Nat.add_assoc, hwA, hw3]
    · rw [g22, if_neg (by decide), a15.2.1 22 (dp - 1) (by unfold pReg; omega)]; exact i9
    · rw [g23, a15.2.1 23 (dp - 1) (by unfold pReg; omega)]; exact i10'
    · rw [fx3.R, a14.2.2]; exact i5.2.1
    · have := hP3.2.1.2.2.1
      have := hP3.L16
      omega
  · left
    obtain ⟨sk, go⟩ := endBad (n0 := n0) (dq := dp + 1) (kf := 4) a4 (by rw [Nat.add_sub_cancel]; exact f21) (by decide) hc (Or.inl hq.2) (Or.inl (by decide)) a6.2.2.1 a6.2.2.2.1
    exact ⟨MX2, _, er, sk, fun rx hrx => badGo hwA (by omega) hlen4 (i3.tr a14) fpA a11 hrx go⟩
end IN
