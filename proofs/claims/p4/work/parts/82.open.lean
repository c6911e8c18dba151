/-! SUMS AND TESTS: brackets on both sides -/
section BR
variable {n0 L s dp : Nat} {MX MY : Mem}
theorem ygo422 (h : PR L s MX MY) (hb : ¬ gI MX 386 = 258) (hk : ¬ ari (gI MX 386) ∨ (2 : Int32) ≤ gA MY 22 (dp - 1)) (hT : ¬ isT (gA MY 21 (dp - 1)) ∨ (¬ gA MY 22 (dp - 1) = 0 ∧ ¬ gI MX 386 = 280 ∧ ¬ gI MX 386 = 279)) (h41 : gI MY 41 = nI dp) (hdp : 1 ≤ dp ∧ dp ≤ 9) : fX12_goesOn n0 MY = fX12_goesOn_422 n0 (nI (dp - 1)) (gA MY 21 (dp - 1)) MY := by
  have hcl : (nI (dp - 1)).toNatClampNeg = dp - 1 := nI_clamp (by omega)
  have o : ¬ oob (nI (dp - 1)) 20 := nI_in (by omega) (by decide)
  rw [ygo188 h hb hk h41 hdp]
  unfold fX12_goesOn_188 fX12_goesOn_285 fX12_goesOn_400
  simp only [hcl]
  by_cases g : isT (gA MY 21 (dp - 1))
  · have q : ¬ gA MY 22 (dp - 1) = 0 ∧ ¬ gI MX 386 = 280 ∧ ¬ gI MX 386 = 279 := by
      rcases hT with q | q
      · exact absurd g q
      · exact q
    exact eq_f (bz g) (eq_f o (eq_f q.1 (eq_f (bz g) (eq_b (yWord (i := 20) (kk := 280) (by decide) (by decide) (by decide) h hb) (eq_t (bI_f q.2.1) (eq_b (yWord (i := 19) (kk := 279) (by decide) (by decide) (by decide) h hb) (eq_t (bI_f q.2.2) (eq_f (bz g) (eq_f o (eq_f q.1 rfl))))))))))
  · exact eq_t (bI_f g) (eq_t (bI_f g) (eq_t (bI_f g) rfl))
theorem y452F {x1 x2 : Int32} {M : Mem} (h : ¬ gI M 8 ≤ 0) : fX12_goesOn_452 n0 x1 x2 M = some (0, M) := by
  unfold fX12_goesOn_452 fX12_goesOn_470
  rcases ySign2 (n0 := n0) (c := 44) (M := M) with q | q
  · exact eq_b q (eq_t rfl (eq_b (yblame1 h) (eq_f h rfl)))
  · exact eq_b q (eq_f i10 (eq_f h rfl))
theorem y531F {x1 x2 c : Int32} {M : Mem} (h : ¬ gI M 8 ≤ 0) : fX12_goesOn_531 n0 x1 x2 c M = some (0, M) := by
  unfold fX12_goesOn_531 fX12_goesOn_546
  rcases ySign2 (n0 := n0) (c := c) (M := M) with q | q
  · exact eq_b q (eq_t rfl (eq_b (yblame1 h) (eq_f h rfl)))
  · exact eq_b q (eq_f i10 (eq_f h rfl))
theorem y422F {x1 x2 : Int32} {M : Mem} (h : ¬ gI M 8 ≤ 0) : fX12_goesOn_422 n0 x1 x2 M = some (0, M) := by
  unfold fX12_goesOn_422
  by_cases g : (2 : Int32) ≤ x2
  · refine eq_t g ?_
    by_cases g3 : x2 = 3
    · exact eq_t g3 (y452F h)
    refine eq_f g3 ?_
    by_cases g6 : x2 = 6
    · exact eq_t g6 (y452F h)
    refine eq_f g6 ?_
    by_cases g5 : x2 = 5
    · exact eq_t g5 (y531F h)
    · exact eq_f g5 (y531F h)
  · exact eq_f g (eq_f (pos_ne h) rfl)
/-- a test that was not compared, and no sign that compares -/
theorem ygoT0 (h : PR L s MX MY) (hb : ¬ gI MX 386 = 258) (hk : ¬ ari (gI MX 386)) (hc : ¬ gI MX 386 = 60 ∧ ¬ gI MX 386 = 62 ∧ ¬ gI MX 386 = 61) (hT : isT (gA MY 21 (dp - 1))) (hph : gA MY 22 (dp - 1) = 0) (h41 : gI MY 41 = nI dp) (hdp : 1 ≤ dp ∧ dp ≤ 9) : fX12_goesOn n0 MY = some (0, sI (sI MY 8 1) 9 (nI s)) := by
  have hcl : (nI (dp - 1)).toNatClampNeg = dp - 1 := nI_clamp (by omega)
  have o : ¬ oob (nI (dp - 1)) 20 := nI_in (by omega) (by decide)
  have n1 : ¬ gI (sI (sI MY 8 1) 9 (nI s)) 8 ≤ 0 := n8f (k := 1) (by decide) (by decide)
  have yb : fX12_blame n0 1 (gI MY 4) MY = some (sI (sI MY 8 1) 9 (nI s)) := by rw [h.at_]; exact yblame0 h.f8
  have e309 : fX12_goesOn_309 n0 (nI (dp - 1)) MY = some (0, sI (sI MY 8 1) 9 (nI s)) := by
    unfold fX12_goesOn_309 fX12_goesOn_327
    simp only [hcl]
    exact eq_f o (eq_t hph (eq_b yb (eq_f n1 rfl)))
  have w1 : fX12_isWord n0 6385252 MY = some (bI (gI MX 386 = 280), MY) := yWord (i := 20) (by decide) (by decide) (by decide) h hb
  have w2 : fX12_isWord n0 28530 MY = some (bI (gI MX 386 = 279), MY) := yWord (i := 19) (by decide) (by decide) (by decide) h hb
  rw [ygo188 h hb (Or.inl hk) h41 hdp]
  unfold fX12_goesOn_188 fX12_goesOn_285 fX12_goesOn_400
  simp only [hcl]
  refine eq_f (bz hT) (eq_f o (eq_t hph (eq_b (ySign (by decide) h) (eq_t (bI_f hc.1) (eq_b (ySign (by decide) h) (eq_t (bI_f hc.2.1) (eq_b (ySign (by decide) h) (eq_t (bI_f hc.2.2) (eq_f (bz hT) (eq_b w1 ?_))))))))))
  by_cases g1 : gI MX 386 = 280
  · exact eq_f (bz g1) e309
  refine eq_t (bI_f g1) (eq_b w2 ?_)
  by_cases g2 : gI MX 386 = 279
  · exact eq_f (bz g2) e309
  exact eq_t (bI_f g2) (eq_f (bz hT) (eq_f o (eq_t hph (eq_b yb (y422F n1)))))
/-- the sign that must end a frame of this kind -/
def endOf (k : Int32) : Int32 := if k = 3 ∨ k = 6 then 44 else if k = 5 then 93 else 41
theorem endOf_b (k : Int32) : (0 : Int32) ≤ endOf k ∧ endOf k ≤ 255 := by
  unfold endOf
  repeat' split
  all_goals decide
theorem ygoEnd {x1 kf : Int32} (h : PR L s MX MY) (hk : ¬ gI MX 386 = endOf kf) (hkf : (2 : Int32) ≤ kf) (hb : ¬ gI MX 386 = 258) : fX12_goesOn_422 n0 x1 kf MY = some (0, sI (sI MY 8 1) 9 (nI s)) := by
  have n1 : ¬ gI (sI (sI MY 8 1) 9 (nI s)) 8 ≤ 0 := n8f (k := 1) (by decide) (by decide)
  have yb : fX12_blame n0 1 (gI MY 4) MY = some (sI (sI MY 8 1) 9 (nI s)) := by rw [h.at_]; exact yblame0 h.f8
  unfold fX12_goesOn_422
  refine eq_t hkf ?_
  unfold endOf at hk
  by_cases g3 : kf = 3
  · rw [if_pos (Or.inl g3)] at hk
    unfold fX12_goesOn_452 fX12_goesOn_470
    exact eq_t g3 (eq_b (ySign (by decide) h) (eq_t (bI_f hk) (eq_b yb (eq_f n1 rfl))))
  refine eq_f g3 ?_
  by_cases g6 : kf = 6
  · rw [if_pos (Or.inr g6)] at hk
    unfold fX12_goesOn_452 fX12_goesOn_470
    exact eq_t g6 (eq_b (ySign (by decide) h) (eq_t (bI_f hk) (eq_b yb (eq_f n1 rfl))))
  have n36 : ¬ (kf = 3 ∨ kf = 6) := by rintro (q | q) <;> contradiction
  rw [if_neg n36] at hk
  refine eq_f g6 ?_
  unfold fX12_goesOn_531 fX12_goesOn_546
  by_cases g5 : kf = 5
  · rw [if_pos g5] at hk
    exact eq_t g5 (eq_b (ySign (by decide) h) (eq_t (bI_f hk) (eq_b yb (eq_f n1 rfl))))
  · rw [if_neg g5] at hk
    exact eq_f g5 (eq_b (ySign (by decide) h) (eq_t (bI_f hk) (eq_b yb (eq_f n1 rfl))))
end BR
section OP
variable {n0 L s b c0 dp m bs op : Nat} {ly : List (Int32 × Int32)} {MX M : Mem}
theorem opF {kk : Int32} (h : PR L s MX M) (h42 : gI M 42 = 7) : fX12_opens n0 kk M = some (sI (sI M 8 5) 9 (nI s)) := by
  unfold fX12_opens fX12_opens_18
  rw [h.at_]
  exact eq_t h42 (eq_b (yblame0 h.f8) (eq_f (n8f (k := 5) (by decide) (by decide)) rfl))
theorem opP {kk : Int32} (hn : 1601 ≤ n0) (hP : PR L s MX M) (hs : s < L) (hY : YP b c0 dp m bs op [] ly M) (h7 : op < 7) (hdo : dp ≤ op + 1) : ∃ MX' M' s', fX8_advance n0 MX = some MX' ∧ fX12_opens n0 kk M = some M' ∧ s < s' ∧ PR L s' MX' M' ∧ YP b c0 (dp + 1) m m (op + 1) [] ly M' ∧ gA M' 21 dp = kk ∧ gA M' 22 dp = 0 ∧ gA M' 23 dp = 1 ∧ FI 386 392 MX MX' ∧ FP b (c0 + ly.length) dp m M M' ∧ gA M' 22 (dp - 1) = gA M 22 (dp - 1) ∧ gA M' 23 (dp - 1) = gA M 23 (dp - 1) := by
  obtain ⟨h1, h2, h3, h4, h5, h6, h7', h8, h9, h10, h11, h12, h13⟩ := hY
  have e42 : gI M 42 = nI op := h12
  have hP1 : PR L s MX (sI M 42 (nI (op + 1))) := hP.in_ (by decide)
  obtain ⟨MX', Ma, s', ax, ay, hs', hP', fx, fy⟩ := hP1.adv hn hs
  have fY := fy.Y
  have m41 : gI Ma 41 = nI dp := (fY.1 41 (by omega)).trans h3
  have m44 : gI Ma 44 = nI m := (fY.1 44 (by omega)).trans h7'
  have o : ¬ oob (gI Ma 41) 20 := by rw [m41]; exact nI_in (by omega) (by decide)
  have c41 : (gI Ma 41).toNatClampNeg = dp := by rw [m41, nI_clamp (by omega)]
  have epush : fX12_pushes n0 kk Ma = some (sI (sA (sA (sA (sA Ma 21 dp kk) 22 dp 0) 23 dp 1) 25 dp (nI m)) 41 (nI (dp + 1))) := by
    unfold fX12_pushes
    refine eq_f o (eq_n (eq_f o (eq_n (eq_f o (eq_n (eq_f o (eq_n ?_)))))))
    simp only [gI_sA, c41]
    rw [m41, m44, nI_1]
  refine ⟨MX', sI (sA (sA (sA (sA Ma 21 dp kk) 22 dp 0) 23 dp 1) 25 dp (nI m)) 41 (nI (dp + 1)), s', ax, ?_, hs', ?_, ?_, ?_, ?_, ?_, fx.wk (by decide) (by decide), ?_, ?_, ?_⟩
  · unfold fX12_opens fX12_opens_18
    have n7 : ¬ gI M 42 = 7 := by rw [e42]; exact fun q => by have := (nI_eq (a := op) (b := 7) (by omega) (by decide)).mp q; omega
    refine eq_f n7 (eq_t (by rw [hP.f8]; exact i00) (eq_n ?_))
    rw [e42, nI_1]
    exact eq_b ay (eq_b epush rfl)
  · exact ((((hP'.ar (by decide)).ar (by decide)).ar (by decide)).ar (by decide)).in_ (by decide)
  · refine ⟨?_, h2, gI_at, ⟨by omega, by omega⟩, ?_, Nat.le_refl m, ?_, trivial, h9, ?_, ?_, ?_, ?_⟩
    · rw [gI_ne (by decide)]; exact (fY.1 34 (by omega)).trans h1
    · rw [Nat.add_sub_cancel]
      show gA (sA (sA (sA (sA Ma 21 dp kk) 22 dp 0) 23 dp 1) 25 dp (nI m)) 25 dp = _
      rw [gA_sA, if_pos rfl, if_pos rfl]
    · rw [gI_ne (by decide)]; exact m44
    · rw [gI_ne (by decide)]; exact (fY.1 33 (by omega)).trans h10
    · refine h11.cong (fun i _ => ⟨?_, ?_⟩)
      · show gA (sA (sA (sA (sA Ma 21 dp kk) 22 dp 0) 23 dp 1) 25 dp (nI m)) 16 _ = _
        rw [gA_sA_ne (by decide), gA_sA_ne (by decide), gA_sA_ne (by decide), gA_sA_ne (by decide), fY.2.1 16 id]
        rfl
      · show gA (sA (sA (sA (sA Ma 21 dp kk) 22 dp 0) 23 dp 1) 25 dp (nI m)) 17 _ = _
        rw [gA_sA_ne (by decide), gA_sA_ne (by decide), gA_sA_ne (by decide), gA_sA_ne (by decide), fY.2.1 17 id]
        rfl
    · rw [gI_ne (by decide)]
      show gI Ma 42 = nI (op + 1)
      rw [fY.1 42 (by omega), gI_at]
    · have : nots [] = 0 := rfl
      omega
  · show gA (sA (sA (sA (sA Ma 21 dp kk) 22 dp 0) 23 dp 1) 25 dp (nI m)) 21 dp = _
    rw [gA_sA_ne (by decide), gA_sA_ne (by decide), gA_sA_ne (by decide), gA_sA, if_pos rfl, if_pos rfl]
  · show gA (sA (sA (sA (sA Ma 21 dp kk) 22 dp 0) 23 dp 1) 25 dp (nI m)) 22 dp = _
    rw [gA_sA_ne (by decide), gA_sA_ne (by decide), gA_sA, if_pos rfl, if_pos rfl]
  · show gA (sA (sA (sA (sA Ma 21 dp kk) 22 dp 0) 23 dp 1) 25 dp (nI m)) 23 dp = _
    rw [gA_sA_ne (by decide), gA_sA, if_pos rfl, if_pos rfl]
  · refine ((((((FP.r.i (k := 42) (by unfold pInt; omega)).tr fY.p).a ?_).a ?_).a ?_).a ?_).i (by unfold pInt; omega) <;> (unfold pReg; omega)
  · show gA (sA (sA (sA (sA Ma 21 dp kk) 22 dp 0) 23 dp 1) 25 dp (nI m)) 22 (dp - 1) = _
    rw [gA_sA_ne (by decide), gA_sA_ne (by decide), gA_sA, if_pos rfl, if_neg (by omega), gA_sA_ne (by decide), fY.2.1 22 id]
    rfl
  · show gA (sA (sA (sA (sA Ma 21 dp kk) 22 dp 0) 23 dp 1) 25 dp (nI m)) 23 (dp - 1) = _
    rw [gA_sA_ne (by decide), gA_sA, if_pos rfl, if_neg (by omega), gA_sA_ne (by decide), gA_sA_ne (by decide), fY.2.1 23 id]
    rfl
end OP
section CL
variable {n0 L s b c0 dp m bs op : Nat} {ly : List (Int32 × Int32)} {R : List Int32} {MX M : Mem}
/-- the end of a frame: what waits is joined, the frame goes -/
theorem cl546 {x2 : Int32} (hn : 1601 ≤ n0) (hP : PR L s MX M) (hY : YP b c0 (dp + 1) m m (op + 1) R ly M) (hR : ∀ o ∈ R, 1 ≤ rkI o) (hc : c0 + ly.length + R.length ≤ 1600) (hdp : 1 ≤ dp) (hbs : gA M 25 (dp - 1) = nI bs) (hb : bs ≤ m) :
    ∃ Mj, PR L s MX Mj ∧ YP b c0 dp m bs op [] (ly ++ fl R) Mj ∧ (∀ a i, a ≠ 16 → a ≠ 17 → gA Mj a i = gA M a i) ∧ gI Mj 45 = gI M 45 ∧ FP b (c0 + ly.length) dp m M Mj ∧
      fX12_goesOn_546 n0 (nI dp) x2 M = (if x2 = (4 : Int32) then (if oob (nI dp) 20 then none else (fX12_add n0 (gA Mj 24 dp) 0 Mj).bind fun z593 => fX12_goesOn_596 n0 x2 z593) else fX12_goesOn_596 n0 x2 Mj) := by
  obtain ⟨Mj, ej, yj, fj⟩ := hY.join (n0 := n0) (least := 1) hn hR (Or.inl rfl) hc (by decide)
  have hP1 := hP.jn fj
  obtain ⟨h1, h2, h3, h4, h5, h6, h7', h8, h9, h10, h11, h12, h13⟩ := yj
  have e41 : gI Mj 41 - 1 = nI dp := by
    rw [h3]
    exact nI_subN (b := 1) (by omega)
  have e42 : gI (sI Mj 41 (nI dp)) 42 - 1 = nI op := by
    rw [gI_ne (by decide), h12]
    have : nots ([] : List Int32) = 0 := rfl
    rw [this]
    exact nI_subN (a := op + 1) (b := 1) (by omega)
  refine ⟨sI (sI Mj 41 (nI dp)) 42 (nI op), (hP1.in_ (by decide)).in_ (by decide), ⟨?_, h2, ?_, ⟨hdp, by omega⟩, ?_, hb, ?_, trivial, h9, ?_, ?_, gI_at, ?_⟩, ?_, ?_, ?_, ?_⟩
  · rw [gI_ne (by decide), gI_ne (by decide)]; exact h1
  · rw [gI_ne (by decide), gI_at]
  · show gA Mj 25 (dp - 1) = _
    rw [fj.2.1 25 _ (by omega)]
    exact hbs
  · rw [gI_ne (by decide), gI_ne (by decide)]; exact h7'
  · rw [gI_ne (by decide), gI_ne (by decide)]; exact h10
  · exact h11
  · have : nots ([] : List Int32) = 0 := rfl
    omega
  · intro a i h16 h17
    show gA Mj a i = _
    exact fj.2.1 a i (by omega)
  · rw [gI_ne (by decide), gI_ne (by decide)]
    exact fj.1 45 (by decide) (by decide) (by decide)
  · exact ((fj.p).i (by unfold pInt; omega)).i (by unfold pInt; omega)
  · unfold fX12_goesOn_546
    have hcl : (nI dp).toNatClampNeg = dp := nI_clamp (by omega)
    refine eq_t (by rw [hP.f8]; exact i00) (eq_b ej (eq_n ?_))
    rw [e41]
    refine eq_n ?_
    rw [e42]
    simp only [hcl]
end CL
