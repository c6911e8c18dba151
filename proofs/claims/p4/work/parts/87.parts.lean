/-! SUMS AND TESTS: every PART; PRODUCT, SUM -/
theorem Ok.nrm {n0 L s qf b c0 dp m bs op pw rl r D : Nat} {t : Bool} {lx : List Int32} {ly : List (Int32 × Int32)} {MX MY : Mem} {Q : Mem → Mem → Prop} {rx rx' : Option (Int32 × Mem)} (h : Ok n0 L s qf b c0 dp m bs op pw lx ly MX MY rl r D t Q rx ∨ Bad n0 s qf b c0 dp m ly MX MY rx) (hx : ∀ v M, (v = 0 ∨ v = 1) → rx = some (v, M) → rx' = some (v, M)) : Ok n0 L s qf b c0 dp m bs op pw lx ly MX MY rl r D t Q rx' ∨ Bad n0 s qf b c0 dp m ly MX MY rx' := by
  rcases h with ⟨a, b, c, d, e, f, g, h1, h2⟩ | ⟨a, b, c, h1, h2⟩
  · exact Or.inl ⟨a, b, c, d, e, f, g, hx _ _ (Or.inr rfl) h1, h2⟩
  · exact Or.inr ⟨a, b, c, hx _ _ (Or.inl rfl) h1, h2⟩
theorem tyv {so v : Int32} {st : List Bool} (h0 : ¬ so = 0) (hs : so = 1 ∨ so = 2 ∨ so = 3 ∨ so = 4 ∨ so = 5 ∨ so = 6) (hl : st.length < 60) : ty1 (so, v) st = some (false :: st) := by
  unfold ty1
  dsimp only
  rw [if_neg h0, if_pos hs, if_pos hl]
theorem ex1v {so v : Int32} (h0 : ¬ so = 0) (h43 : ¬ so = 43) : ex1 (so, v) = [exS so] := by
  unfold ex1
  dsimp only
  rw [if_neg h0, if_neg h43]
section LF
variable {n0 L s qf b c0 dp m bs op pw : Nat} {lx : List Int32} {ly : List (Int32 × Int32)} {MX MY : Mem} {rx : Option (Int32 × Mem)}
theorem leafQ {so x : Int32} (hn : 1601 ≤ n0) (h : En L s qf b c0 dp m bs op pw lx ly MX MY) (hN : NF dp MX MY) (hb : ¬ gI MX 386 = 258) (hb9 : ¬ gI MX 386 = 259) (h1 : ¬ gI MX 386 = 40) (h2 : ¬ gI MX 386 = 283) (h3 : ¬ gI MX 386 = 284) (h4 : ¬ gI MX 386 = 278) (hso : sortOf (gI MX 386) = so) (hne : ¬ so = -1) (h411 : fX12_operand_411 n0 so (sA MY 23 (dp - 1) 0) = fX12_operand_437 n0 so (sA MY 23 (dp - 1) 0)) (hex : ex1 (so, gI MY 6) = [x]) (hty : ∀ st : List Bool, st.length < 60 → ty1 (so, gI MY 6) st = some (false :: st)) (hx : ∀ MX', fX3_addAndAdvance n0 x MX = some (1, MX') → rx = some (1, MX')) :
    Ok n0 L s qf b c0 dp m bs op pw lx ly MX MY 0 6 (DP op) false (QPart dp MY) rx := by
  have hh := h
  obtain ⟨hP, h257, hq, hxl, hYP, h258, hdo, hmp, hcs, hll, h45⟩ := h
  have hs := hP.2.1.2.2.2.2.lt hb9
  have hdp := hYP.2.2.2.1
  have hP1 : PR L s MX (sA MY 23 (dp - 1) 0) := hP.ar (by decide)
  have hY1 : YP b c0 dp m bs op [] ly (sA MY 23 (dp - 1) 0) := hYP.cong (fun k _ => rfl) (fun a ha => gA_sA_ne (by omega))
  have f1 : FP b (c0 + ly.length) dp m MY (sA MY 23 (dp - 1) 0) := FP.r.a (by unfold pReg; omega)
  have hL16 := hP.L16
  have ya := (hY1.add (n0 := n0) (x := so) (y := gI MY 6) (by omega)).2
  refine leafP (so := so) (v := gI MY 6) (x := x) (M1 := sA MY 23 (dp - 1) 0) (fun M => M) hn hh hs hP1 hY1 f1 (hP1.add.xad hq) ya FP.r ?_ hx hex hty (by unfold DP; omega) (fun MX' MY' fY => ?_)
  · rw [yop171 hP hb hYP.2.2.1 hdp hN.1, y171l hP1 hb h1 h2 h3 h4, hso, h411, y437 hP1 hne]
    rfl
  · have ar : ∀ a, a = 22 ∨ a = 23 → gA (sI MY' 45 1) a (dp - 1) = gA (sA MY 23 (dp - 1) 0) a (dp - 1) := fun a ha => by
      show gA MY' a (dp - 1) = _
      rw [fY.2.1 a id]
      unfold yAdd
      show gA (sA (sA (sA MY 23 (dp - 1) 0) 16 _ _) 17 _ _) a (dp - 1) = _
      rw [gA_sA_ne (by omega), gA_sA_ne (by omega)]
    exact ⟨by rw [ar 22 (Or.inl rfl), gA_sA_ne (by decide)], by rw [ar 23 (Or.inr rfl), gA_sA, if_pos rfl, if_pos rfl]⟩
theorem leafB (h : En L s qf b c0 dp m bs op pw lx ly MX MY) (hN : NF dp MX MY) (hb : ¬ gI MX 386 = 258) (h1 : ¬ gI MX 386 = 40) (h2 : ¬ gI MX 386 = 283) (h3 : ¬ gI MX 386 = 284) (h4 : ¬ gI MX 386 = 278) (h411 : fX12_operand_411 n0 (sortOf (gI MX 386)) (sA MY 23 (dp - 1) 0) = fX12_operand_437 n0 (-1) (sA MY 23 (dp - 1) 0)) (hx : rx = some (0, sI (sI MX 391 1) 392 (gI MX 388))) : Bad n0 s qf b c0 dp m ly MX MY rx := by
  have hh := h
  obtain ⟨hP, h257, hq, hxl, hYP, h258, hdo, hmp, hcs, hll, h45⟩ := h
  have hdp := hYP.2.2.2.1
  have hP1 : PR L s MX (sA MY 23 (dp - 1) 0) := hP.ar (by decide)
  refine badOp (k := 1) (r := 1) (p := nI s) (M1 := sA MY 23 (dp - 1) 0) hh (by decide) (by decide) (Or.inr rfl) (by rw [hx, hP.pl hb]; rfl) (FP.r.a (by unfold pReg; omega)) ?_
  rw [yop171 hP hb hYP.2.2.1 hdp hN.1, y171l hP1 hb h1 h2 h3 h4, h411, y437F hP1]
  rfl
end LF
theorem partP {n0 L b c0 op : Nat} {rec : Nat → Int32 → Int32 → Mem → Option (Int32 × Mem)} (hn : 1601 ≤ n0) (hSum : op < 7 → SSum n0 L b c0 (op + 1) (fun M => rec 0 (nI (op + 1)) 0 M)) (hPair : ∀ x2, SPart n0 L b c0 op (fun M => (gI M 386 = 283 ∧ x2 = -12) ∨ (gI M 386 = 284 ∧ x2 = -13)) (fun M => rec 3 (nI op) x2 M)) (hCh : SPart n0 L b c0 op (fun M => gI M 386 = 278) (fun M => rec 4 (nI op) 0 M)) : SPart n0 L b c0 op (fun _ => True) (fun M => fX3_readPart n0 rec (nI op) M) := by
  intro s qf dp m bs pw lx ly MX MY h _ hN hm
  have hP := h.1
  have hg35 : gI (sA MY 23 (dp - 1) 0) 35 = gI MX 258 := h.2.2.2.2.2.1.1.symm
  have h01 := h.2.2.2.2.2.1.2
  show Ok n0 L s qf b c0 dp m bs op pw lx ly MX MY 0 6 (DP op) false (QPart dp MY) (fX3_readPart n0 rec (nI op) MX) ∨ Bad n0 s qf b c0 dp m ly MX MY (fX3_readPart n0 rec (nI op) MX)
  unfold fX3_readPart
  by_cases k40 : gI MX 386 = 40
  · exact parP hn hSum h k40 hN hm (eq_t k40 rfl)
  rw [if_neg k40]
  by_cases k256 : gI MX 386 = 256
  · left
    obtain ⟨v, hv, ex, ey⟩ := (hP.2.1.2.2.2.2.sg2 (by rw [k256]; decide)).2 k256
    refine leafQ (so := 0) (x := gI MX 389) hn h hN (by rw [k256]; decide) (by rw [k256]; decide) (by rw [k256]; decide) (by rw [k256]; decide) (by rw [k256]; decide) (by rw [k256]; decide) (by rw [k256]; rfl) (by decide) (by unfold fX12_operand_411; exact eq_t (by decide) rfl) ?_ (fun st hst => ?_) (fun MX' e => eq_t k256 (eq_b e (eq_t (Or.inr rfl) rfl)))
    · rw [ex, ey]; rfl
    · rw [ey]
      unfold ty1
      dsimp only
      rw [if_pos rfl, if_pos ⟨hst, nI_pos' (by omega), nI_le (b := 9999) hv (by decide)⟩]
  rw [if_neg k256]
  have lf : ∀ (so : Int32), (so = 1 ∨ so = 2 ∨ so = 3 ∨ so = 4) → fX12_operand_411 n0 so (sA MY 23 (dp - 1) 0) = fX12_operand_437 n0 so (sA MY 23 (dp - 1) 0) := fun so hso => by
    unfold fX12_operand_411
    refine eq_t ?_ rfl
    rcases hso with q | q | q | q <;> rw [q] <;> decide
  by_cases k261 : gI MX 386 = 261
  · left
    exact leafQ (so := 1) (x := -1) hn h hN (by rw [k261]; decide) (by rw [k261]; decide) (by rw [k261]; decide) (by rw [k261]; decide) (by rw [k261]; decide) (by rw [k261]; decide) (by rw [k261]; rfl) (by decide) (lf 1 (by decide)) (by rw [ex1v (by decide) (by decide)]; rfl) (fun st hst => tyv (by decide) (by decide) hst) (fun MX' e => eq_t k261 (eq_b e (eq_t (Or.inr rfl) rfl)))
  rw [if_neg k261]
  by_cases k262 : gI MX 386 = 262
  · rw [if_pos k262]
    by_cases g : gI MX 258 = 0
    · right
      refine leafB h hN (by rw [k262]; decide) (by rw [k262]; decide) (by rw [k262]; decide) (by rw [k262]; decide) (by rw [k262]; decide) ?_ (eq_t g (eq_b xfailH (eq_t (Or.inl rfl) rfl)))
      rw [k262, show sortOf 262 = 6 from rfl]
      unfold fX12_operand_411 fX12_operand_428
      exact eq_f (by decide) (eq_t rfl (eq_f (by rw [hg35, g]; decide) rfl))
    · left
      have g1 : gI MX 258 = 1 := by rcases h01 with q | q; exact absurd q g; exact q
      refine leafQ (so := 6) (x := -6) hn h hN (by rw [k262]; decide) (by rw [k262]; decide) (by rw [k262]; decide) (by rw [k262]; decide) (by rw [k262]; decide) (by rw [k262]; decide) (by rw [k262]; rfl) (by decide) ?_ (by rw [ex1v (by decide) (by decide)]; rfl) (fun st hst => tyv (by decide) (by decide) hst) (fun MX' e => eq_f g (eq_b e (eq_t (Or.inr rfl) rfl)))
      unfold fX12_operand_411 fX12_operand_428
      exact eq_f (by decide) (eq_t rfl (eq_t (by rw [hg35, g1]) rfl))
  rw [if_neg k262]
  by_cases k263 : gI MX 386 = 263
  · left
    exact leafQ (so := 3) (x := -3) hn h hN (by rw [k263]; decide) (by rw [k263]; decide) (by rw [k263]; decide) (by rw [k263]; decide) (by rw [k263]; decide) (by rw [k263]; decide) (by rw [k263]; rfl) (by decide) (lf 3 (by decide)) (by rw [ex1v (by decide) (by decide)]; rfl) (fun st hst => tyv (by decide) (by decide) hst) (fun MX' e => eq_t k263 (eq_b e (eq_t (Or.inr rfl) rfl)))
  rw [if_neg k263]
  by_cases k275 : gI MX 386 = 275
  · left
    exact leafQ (so := 2) (x := -2) hn h hN (by rw [k275]; decide) (by rw [k275]; decide) (by rw [k275]; decide) (by rw [k275]; decide) (by rw [k275]; decide) (by rw [k275]; decide) (by rw [k275]; rfl) (by decide) (lf 2 (by decide)) (by rw [ex1v (by decide) (by decide)]; rfl) (fun st hst => tyv (by decide) (by decide) hst) (fun MX' e => eq_t k275 (eq_b e (eq_t (Or.inr rfl) rfl)))
  rw [if_neg k275]
  by_cases k276 : gI MX 386 = 276
  · left
    exact leafQ (so := 4) (x := -4) hn h hN (by rw [k276]; decide) (by rw [k276]; decide) (by rw [k276]; decide) (by rw [k276]; decide) (by rw [k276]; decide) (by rw [k276]; decide) (by rw [k276]; rfl) (by decide) (lf 4 (by decide)) (by rw [ex1v (by decide) (by decide)]; rfl) (fun st hst => tyv (by decide) (by decide) hst) (fun MX' e => eq_t k276 (eq_b e (eq_t (Or.inr rfl) rfl)))
  rw [if_neg k276]
  by_cases k277 : gI MX 386 = 277
  · rw [if_pos k277]
    by_cases g : gI MX 258 = 0
    · left
      refine leafQ (so := 5) (x := -5) hn h hN (by rw [k277]; decide) (by rw [k277]; decide) (by rw [k277]; decide) (by rw [k277]; decide) (by rw [k277]; decide) (by rw [k277]; decide) (by rw [k277]; rfl) (by decide) ?_ (by rw [ex1v (by decide) (by decide)]; rfl) (fun st hst => tyv (by decide) (by decide) hst) (fun MX' e => eq_t g (eq_b e (eq_t (Or.inr rfl) rfl)))
      unfold fX12_operand_411 fX12_operand_428
      exact eq_f (by decide) (eq_f (by decide) (eq_t (by rw [hg35, g]) rfl))
    · right
      have g1 : gI MX 258 = 1 := by rcases h01 with q | q; exact absurd q g; exact q
      refine leafB h hN (by rw [k277]; decide) (by rw [k277]; decide) (by rw [k277]; decide) (by rw [k277]; decide) (by rw [k277]; decide) ?_ (eq_f g (eq_b xfailH (eq_t (Or.inl rfl) rfl)))
      rw [k277, show sortOf 277 = 5 from rfl]
      unfold fX12_operand_411 fX12_operand_428
      exact eq_f (by decide) (eq_f (by decide) (eq_f (by rw [hg35, g1]; decide) rfl))
  rw [if_neg k277]
  by_cases k278 : gI MX 386 = 278
  · exact Ok.nrm (hCh s qf dp m bs pw lx ly MX MY h k278 hN hm) (fun v M hv e => eq_t k278 (eq_b e (eq_t hv rfl)))
  rw [if_neg k278]
  by_cases k283 : gI MX 386 = 283
  · exact Ok.nrm (hPair (-12) s qf dp m bs pw lx ly MX MY h (Or.inl ⟨k283, rfl⟩) hN hm) (fun v M hv e => eq_t k283 (eq_b e (eq_t hv rfl)))
  rw [if_neg k283]
  by_cases k284 : gI MX 386 = 284
  · exact Ok.nrm (hPair (-13) s qf dp m bs pw lx ly MX MY h (Or.inr ⟨k284, rfl⟩) hN hm) (fun v M hv e => eq_t k284 (eq_b e (eq_t hv rfl)))
  rw [if_neg k284]
  right
  by_cases k258 : gI MX 386 = 258
  · exact badOp (k := 1) (r := 1) (p := gI MX 388) (M1 := MY) h (by decide) (by decide) (Or.inr rfl) (eq_b xfailH (eq_t (Or.inl rfl) rfl)) FP.r (yopB hP k258)
  · refine leafB h hN k258 k40 k283 k284 k278 ?_ (eq_b xfailH (eq_t (Or.inl rfl) rfl))
    rw [show sortOf (gI MX 386) = -1 from by unfold sortOf; rw [if_neg k256, if_neg k261, if_neg k275, if_neg k263, if_neg k276, if_neg k277, if_neg k262]]
    unfold fX12_operand_411
    exact eq_t (by decide) rfl
