/-! SUMS AND TESTS: what operand() and goesOn() of the reference do at each token -/
abbrev ari (x : Int32) : Prop := x = 43 ∨ x = 45 ∨ x = 42 ∨ x = 47 ∨ x = 37
section REACH
variable {n0 L s dp : Nat} {MX MY : Mem}
theorem e41 (h41 : gI MY 41 = nI dp) (hdp : 1 ≤ dp) : gI MY 41 - 1 = nI (dp - 1) := by
  rw [h41]
  exact nI_subN (b := 1) hdp
theorem yop46 (h : PR L s MX MY) (hb : ¬ gI MX 386 = 258) (h41 : gI MY 41 = nI dp) (hdp : 1 ≤ dp ∧ dp ≤ 9) (hT : isT (gA MY 21 (dp - 1))) (hbg : ¬ gA MY 23 (dp - 1) = 0) : fX12_operand n0 MY = fX12_operand_46 n0 (nI (dp - 1)) 1 MY := by
  have e8 : gI MY 8 ≤ 0 := by rw [h.f8]; exact i00
  have hcl : (nI (dp - 1)).toNatClampNeg = dp - 1 := nI_clamp (by omega)
  have o : ¬ oob (nI (dp - 1)) 20 := nI_in (by omega) (by decide)
  unfold fX12_operand
  refine eq_b (ylexG h hb) (eq_t e8 (eq_n ?_))
  rw [e41 h41 hdp.1]
  simp only [hcl]
  exact eq_f o (eq_b yisT (eq_f (bz hT) (eq_f o (eq_f hbg rfl))))
theorem yop45 (h : PR L s MX MY) (hb : ¬ gI MX 386 = 258) (h41 : gI MY 41 = nI dp) (hdp : 1 ≤ dp ∧ dp ≤ 9) (hT : ¬ isT (gA MY 21 (dp - 1)) ∨ gA MY 23 (dp - 1) = 0) : fX12_operand n0 MY = fX12_operand_46 n0 (nI (dp - 1)) 0 MY := by
  have e8 : gI MY 8 ≤ 0 := by rw [h.f8]; exact i00
  have hcl : (nI (dp - 1)).toNatClampNeg = dp - 1 := nI_clamp (by omega)
  have o : ¬ oob (nI (dp - 1)) 20 := nI_in (by omega) (by decide)
  unfold fX12_operand fX12_operand_45
  refine eq_b (ylexG h hb) (eq_t e8 (eq_n ?_))
  rw [e41 h41 hdp.1]
  simp only [hcl]
  refine eq_f o (eq_b yisT ?_)
  by_cases g : isT (gA MY 21 (dp - 1))
  · rcases hT with q | q
    · exact absurd g q
    · exact eq_f (bz g) (eq_f o (eq_t q rfl))
  · exact eq_t (bI_f g) rfl
theorem yop110 {u : Int32} (h : PR L s MX MY) (hb : ¬ gI MX 386 = 258) (hdp : 1 ≤ dp ∧ dp ≤ 9) (hu : u = 0 ∨ (¬ gI MX 386 = 91 ∧ ¬ gI MX 386 = 282)) : fX12_operand_110 n0 (nI (dp - 1)) u MY = fX12_operand_171 n0 (sA MY 23 (dp - 1) 0) := by
  have hcl : (nI (dp - 1)).toNatClampNeg = dp - 1 := nI_clamp (by omega)
  have o : ¬ oob (nI (dp - 1)) 20 := nI_in (by omega) (by decide)
  have h1 : PR L s MX (sA MY 23 (dp - 1) 0) := h.ar (by decide)
  unfold fX12_operand_110 fX12_operand_137
  simp only [hcl]
  refine eq_f o (eq_n ?_)
  by_cases g : u = 0
  · exact eq_t g (eq_t g rfl)
  · rcases hu with q | q
    · exact absurd q g
    · exact eq_f g (eq_b (ySign (by decide) h1) (eq_t (bI_f q.1) (eq_f g (eq_b (yWord (i := 22) (kk := 282) (by decide) (by decide) (by decide) h1 hb) (eq_t (bI_f q.2) rfl)))))
theorem yop171 (h : PR L s MX MY) (hb : ¬ gI MX 386 = 258) (h41 : gI MY 41 = nI dp) (hdp : 1 ≤ dp ∧ dp ≤ 9) (hF : ¬ isT (gA MY 21 (dp - 1)) ∨ gA MY 23 (dp - 1) = 0 ∨ (¬ gI MX 386 = 281 ∧ ¬ gI MX 386 = 91 ∧ ¬ gI MX 386 = 282)) : fX12_operand n0 MY = fX12_operand_171 n0 (sA MY 23 (dp - 1) 0) := by
  by_cases g : ¬ isT (gA MY 21 (dp - 1)) ∨ gA MY 23 (dp - 1) = 0
  · rw [yop45 h hb h41 hdp g]
    unfold fX12_operand_46
    exact eq_t rfl (yop110 h hb hdp (Or.inl rfl))
  · have g1 : isT (gA MY 21 (dp - 1)) := Decidable.byContradiction (fun q => g (Or.inl q))
    have g2 : ¬ gA MY 23 (dp - 1) = 0 := fun q => g (Or.inr q)
    have g3 : ¬ gI MX 386 = 281 ∧ ¬ gI MX 386 = 91 ∧ ¬ gI MX 386 = 282 := by
      rcases hF with q | q | q
      · exact absurd g1 q
      · exact absurd q g2
      · exact q
    rw [yop46 h hb h41 hdp g1 g2]
    unfold fX12_operand_46
    exact eq_f i10 (eq_b (yWord (i := 21) (kk := 281) (by decide) (by decide) (by decide) h hb) (eq_t (bI_f g3.1) (yop110 h hb hdp (Or.inr g3.2))))
theorem yopBr (h : PR L s MX MY) (hk : gI MX 386 = 91) (h41 : gI MY 41 = nI dp) (hdp : 1 ≤ dp ∧ dp ≤ 9) (hT : isT (gA MY 21 (dp - 1))) (hbg : ¬ gA MY 23 (dp - 1) = 0) : fX12_operand n0 MY = (fX12_opens n0 5 (sA MY 23 (dp - 1) 0)).bind fun z => some (0, z) := by
  have hb : ¬ gI MX 386 = 258 := by rw [hk]; decide
  have hcl : (nI (dp - 1)).toNatClampNeg = dp - 1 := nI_clamp (by omega)
  have o : ¬ oob (nI (dp - 1)) 20 := nI_in (by omega) (by decide)
  rw [yop46 h hb h41 hdp hT hbg]
  unfold fX12_operand_46 fX12_operand_110
  simp only [hcl]
  exact eq_f i10 (eq_b (yWord (i := 21) (kk := 281) (by decide) (by decide) (by decide) h hb) (eq_t (bI_f (by rw [hk]; decide)) (eq_f o (eq_n (eq_f i10 (eq_b (ySign (by decide) (h.ar (by decide))) (eq_f (bz hk) rfl)))))))
theorem yopAll (h : PR L s MX MY) (hk : gI MX 386 = 282) (h41 : gI MY 41 = nI dp) (hdp : 1 ≤ dp ∧ dp ≤ 9) (hT : isT (gA MY 21 (dp - 1))) (hbg : ¬ gA MY 23 (dp - 1) = 0) : fX12_operand n0 MY = (fX12_add n0 30 0 (sA MY 23 (dp - 1) 0)).bind fun z => (fX12_ahead n0 (sA z 22 (dp - 1) 2)).bind fun z2 => some (1, z2) := by
  have hb : ¬ gI MX 386 = 258 := by rw [hk]; decide
  have hcl : (nI (dp - 1)).toNatClampNeg = dp - 1 := nI_clamp (by omega)
  have o : ¬ oob (nI (dp - 1)) 20 := nI_in (by omega) (by decide)
  have h1 : PR L s MX (sA MY 23 (dp - 1) 0) := h.ar (by decide)
  rw [yop46 h hb h41 hdp hT hbg]
  unfold fX12_operand_46 fX12_operand_110 fX12_operand_137
  simp only [hcl]
  refine eq_f i10 (eq_b (yWord (i := 21) (kk := 281) (by decide) (by decide) (by decide) h hb) (eq_t (bI_f (by rw [hk]; decide)) (eq_f o (eq_n (eq_f i10 (eq_b (ySign (by decide) h1) (eq_t (bI_f (by rw [hk]; decide)) (eq_f i10 (eq_b (yWord (i := 22) (kk := 282) (by decide) (by decide) (by decide) h1 hb) (eq_f (bz hk) ?_))))))))))
  show ((fX12_add n0 30 0 (sA MY 23 (dp - 1) 0)).bind fun z155 => if oob (nI (dp - 1)) 20 then none else bnd (sA z155 22 (dp - 1) 2) fun M164 => (fX12_ahead n0 M164).bind fun z166 => some (1, z166)) = _
  congr 1
  funext z
  exact eq_f o rfl
theorem yopNot (h : PR L s MX MY) (hk : gI MX 386 = 281) (h41 : gI MY 41 = nI dp) (hdp : 1 ≤ dp ∧ dp ≤ 9) (hT : isT (gA MY 21 (dp - 1))) (hbg : ¬ gA MY 23 (dp - 1) = 0) : (gI MY 42 = 7 → fX12_operand n0 MY = some (1, sI (sI MY 8 5) 9 (nI s))) ∧ (¬ gI MY 42 = 7 → fX12_operand n0 MY = (fX12_holdsBack n0 43 (sI MY 42 (gI MY 42 + 1))).bind fun z => (fX12_ahead n0 z).bind fun z2 => some (0, z2)) := by
  have hb : ¬ gI MX 386 = 258 := by rw [hk]; decide
  have e8 : gI MY 8 ≤ 0 := by rw [h.f8]; exact i00
  rw [yop46 h hb h41 hdp hT hbg]
  unfold fX12_operand_46 fX12_operand_79
  constructor
  · intro h7
    refine eq_f i10 (eq_b (yWord (i := 21) (kk := 281) (by decide) (by decide) (by decide) h hb) (eq_f (bz hk) (eq_t h7 (eq_b (yblame0 h.f8) ?_))))
    rw [show gI (bI (gI MX 386 = 281), MY).2 4 = nI s from h.at_]
    exact eq_f (n8f (k := 5) (by decide) (by decide)) rfl
  · intro h7
    exact eq_f i10 (eq_b (yWord (i := 21) (kk := 281) (by decide) (by decide) (by decide) h hb) (eq_f (bz hk) (eq_f h7 (eq_t e8 rfl))))
-- operand_171
theorem y171o (h : PR L s MX MY) (hk : gI MX 386 = 40) : fX12_operand_171 n0 MY = (fX12_opens n0 2 MY).bind fun z => some (0, z) := by
  unfold fX12_operand_171
  exact eq_b (ySign (by decide) h) (eq_f (bz hk) rfl)
theorem y171w (h : PR L s MX MY) (hk : gI MX 386 = 283 ∨ gI MX 386 = 284 ∨ gI MX 386 = 278) : fX12_operand_171 n0 MY = fX12_operand_249 n0 (if gI MX 386 = 283 then 36 else if gI MX 386 = 284 then 37 else 44) MY := by
  have hb : ¬ gI MX 386 = 258 := by rcases hk with e | e | e <;> rw [e] <;> decide
  have h40 : ¬ gI MX 386 = 40 := by rcases hk with e | e | e <;> rw [e] <;> decide
  have w1 : fX12_isWord n0 7170414 MY = some (bI (gI MX 386 = 283), MY) := yWord (i := 23) (by decide) (by decide) (by decide) h hb
  have w2 : fX12_isWord n0 7168376 MY = some (bI (gI MX 386 = 284), MY) := yWord (i := 24) (by decide) (by decide) (by decide) h hb
  have w3 : fX12_isWord n0 26982 MY = some (bI (gI MX 386 = 278), MY) := yWord (i := 18) (by decide) (by decide) (by decide) h hb
  unfold fX12_operand_171 fX12_operand_217
  refine eq_b (ySign (by decide) h) (eq_t (bI_f h40) ?_)
  by_cases e1 : gI MX 386 = 283
  · rw [if_pos e1]
    exact eq_b w1 (eq_f (bz e1) (eq_b w1 (eq_f (bz e1) rfl)))
  · rw [if_neg e1]
    by_cases e2 : gI MX 386 = 284
    · rw [if_pos e2]
      exact eq_b w1 (eq_t (bI_f e1) (eq_b w2 (eq_f (bz e2) (eq_b w1 (eq_t (bI_f e1) (eq_b w2 (eq_f (bz e2) rfl)))))))
    · rw [if_neg e2]
      have e3 : gI MX 386 = 278 := by
        rcases hk with q | q | q
        · exact absurd q e1
        · exact absurd q e2
        · exact q
      exact eq_b w1 (eq_t (bI_f e1) (eq_b w2 (eq_t (bI_f e2) (eq_b w3 (eq_f (bz e3) (eq_b w1 (eq_t (bI_f e1) (eq_b w2 (eq_t (bI_f e2) rfl)))))))))
/-- the reference's sort of a token that stands for a value -/
def sortOf (k : Int32) : Int32 := if k = 256 then 0 else if k = 261 then 1 else if k = 275 then 2 else if k = 263 then 3 else if k = 276 then 4 else if k = 277 then 5 else if k = 262 then 6 else -1
theorem y171l (h : PR L s MX MY) (hb : ¬ gI MX 386 = 258) (h1 : ¬ gI MX 386 = 40) (h2 : ¬ gI MX 386 = 283) (h3 : ¬ gI MX 386 = 284) (h4 : ¬ gI MX 386 = 278) : fX12_operand_171 n0 MY = fX12_operand_411 n0 (sortOf (gI MX 386)) MY := by
  have w1 : fX12_isWord n0 7170414 MY = some (bI (gI MX 386 = 283), MY) := yWord (i := 23) (by decide) (by decide) (by decide) h hb
  have w2 : fX12_isWord n0 7168376 MY = some (bI (gI MX 386 = 284), MY) := yWord (i := 24) (by decide) (by decide) (by decide) h hb
  have w3 : fX12_isWord n0 26982 MY = some (bI (gI MX 386 = 278), MY) := yWord (i := 18) (by decide) (by decide) (by decide) h hb
  have v1 : fX12_isWord n0 512802514792 MY = some (bI (gI MX 386 = 261), MY) := yWord (i := 1) (by decide) (by decide) (by decide) h hb
  have v2 : fX12_isWord n0 1751477348 MY = some (bI (gI MX 386 = 275), MY) := yWord (i := 15) (by decide) (by decide) (by decide) h hb
  have v3 : fX12_isWord n0 109330312357234 MY = some (bI (gI MX 386 = 263), MY) := yWord (i := 3) (by decide) (by decide) (by decide) h hb
  have v4 : fX12_isWord n0 120299592184933 MY = some (bI (gI MX 386 = 276), MY) := yWord (i := 16) (by decide) (by decide) (by decide) h hb
  have v5 : fX12_isWord n0 435627783289 MY = some (bI (gI MX 386 = 277), MY) := yWord (i := 17) (by decide) (by decide) (by decide) h hb
  have v6 : fX12_isWord n0 465491424371 MY = some (bI (gI MX 386 = 262), MY) := yWord (i := 2) (by decide) (by decide) (by decide) h hb
  have hs := h.2.1.2.2.2.2.sg2 hb
  unfold fX12_operand_171 sortOf
  refine eq_b (ySign (by decide) h) (eq_t (bI_f h1) (eq_b w1 (eq_t (bI_f h2) (eq_b w2 (eq_t (bI_f h3) (eq_b w3 (eq_t (bI_f h4) ?_)))))))
  by_cases g0 : gI MX 386 = 256
  · rw [if_pos g0]
    exact eq_t (hs.1.mpr g0) rfl
  rw [if_neg g0]
  refine eq_f (fun q => g0 (hs.1.mp q)) ?_
  by_cases g1 : gI MX 386 = 261
  · rw [if_pos g1]
    exact eq_b v1 (eq_f (bz g1) rfl)
  rw [if_neg g1]
  refine eq_b v1 (eq_t (bI_f g1) ?_)
  by_cases g2 : gI MX 386 = 275
  · rw [if_pos g2]
    exact eq_b v2 (eq_f (bz g2) rfl)
  rw [if_neg g2]
  refine eq_b v2 (eq_t (bI_f g2) ?_)
  by_cases g3 : gI MX 386 = 263
  · rw [if_pos g3]
    exact eq_b v3 (eq_f (bz g3) rfl)
  rw [if_neg g3]
  refine eq_b v3 (eq_t (bI_f g3) ?_)
  by_cases g4 : gI MX 386 = 276
  · rw [if_pos g4]
    exact eq_b v4 (eq_f (bz g4) rfl)
  rw [if_neg g4]
  refine eq_b v4 (eq_t (bI_f g4) ?_)
  by_cases g5 : gI MX 386 = 277
  · rw [if_pos g5]
    exact eq_b v5 (eq_f (bz g5) rfl)
  rw [if_neg g5]
  refine eq_b v5 (eq_t (bI_f g5) ?_)
  by_cases g6 : gI MX 386 = 262
  · rw [if_pos g6]
    exact eq_b v6 (eq_f (bz g6) rfl)
  rw [if_neg g6]
  exact eq_b v6 (eq_t (bI_f g6) rfl)
theorem y437F (h : PR L s MX MY) : fX12_operand_437 n0 (-1) MY = some (1, sI (sI MY 8 1) 9 (nI s)) := by
  unfold fX12_operand_437 fX12_operand_451
  rw [h.at_]
  exact eq_t rfl (eq_b (yblame0 h.f8) (eq_f (n8f (k := 1) (by decide) (by decide)) rfl))
theorem y437 {x : Int32} (h : PR L s MX MY) (hx : ¬ x = -1) : fX12_operand_437 n0 x MY = (fX12_add n0 x (gI MY 6) MY).bind fun z => (fX12_ahead n0 z).bind fun z2 => some (1, z2) := by
  have e8 : gI MY 8 ≤ 0 := by rw [h.f8]; exact i00
  unfold fX12_operand_437 fX12_operand_451
  exact eq_f hx (eq_t e8 rfl)
-- goesOn
theorem ygoA (h : PR L s MX MY) (hk : ari (gI MX 386)) (h41 : gI MY 41 = nI dp) (hdp : 1 ≤ dp ∧ dp ≤ 9) (hph : ¬ (2 : Int32) ≤ gA MY 22 (dp - 1)) : fX12_goesOn n0 MY = fX12_goesOn_112 n0 (if gI MX 386 = 43 ∨ gI MX 386 = 45 then 5 else 6) MY := by
  have hb : ¬ gI MX 386 = 258 := by rcases hk with e | e | e | e | e <;> rw [e] <;> decide
  have e8 : gI MY 8 ≤ 0 := by rw [h.f8]; exact i00
  have hcl : (nI (dp - 1)).toNatClampNeg = dp - 1 := nI_clamp (by omega)
  have o : ¬ oob (nI (dp - 1)) 20 := nI_in (by omega) (by decide)
  have tail : fX12_goesOn_87 n0 MY = fX12_goesOn_112 n0 (if gI MX 386 = 43 ∨ gI MX 386 = 45 then 5 else 6) MY := by
    unfold fX12_goesOn_87 fX12_goesOn_106
    refine eq_b (ySign (by decide) h) ?_
    by_cases g1 : gI MX 386 = 43
    · rw [if_pos (Or.inl g1)]
      exact eq_f (bz g1) rfl
    · refine eq_t (bI_f g1) (eq_b (ySign (by decide) h) ?_)
      by_cases g2 : gI MX 386 = 45
      · rw [if_pos (Or.inr g2)]
        exact eq_f (bz g2) rfl
      · have hno : ¬ (gI MX 386 = 43 ∨ gI MX 386 = 45) := by rintro (q | q) <;> contradiction
        rw [if_neg hno]
        exact eq_t (bI_f g2) rfl
  unfold fX12_goesOn
  refine eq_b (ylexG h hb) (eq_t e8 (eq_n ?_))
  rw [e41 h41 hdp.1]
  simp only [hcl]
  refine eq_f o (eq_n (eq_b yisT (eq_f o (eq_f hph (eq_b (ySign (by decide) h) ?_)))))
  by_cases g1 : gI MX 386 = 43
  · exact eq_f (bz g1) tail
  refine eq_t (bI_f g1) (eq_b (ySign (by decide) h) ?_)
  by_cases g2 : gI MX 386 = 45
  · exact eq_f (bz g2) tail
  refine eq_t (bI_f g2) (eq_b (ySign (by decide) h) ?_)
  by_cases g3 : gI MX 386 = 42
  · exact eq_f (bz g3) tail
  refine eq_t (bI_f g3) (eq_b (ySign (by decide) h) ?_)
  by_cases g4 : gI MX 386 = 47
  · exact eq_f (bz g4) tail
  refine eq_t (bI_f g4) (eq_b (ySign (by decide) h) ?_)
  have g5 : gI MX 386 = 37 := by
    rcases hk with q | q | q | q | q
    · exact absurd q g1
    · exact absurd q g2
    · exact absurd q g3
    · exact absurd q g4
    · exact q
  exact eq_f (bz g5) tail
theorem ygo188 (h : PR L s MX MY) (hb : ¬ gI MX 386 = 258) (hk : ¬ ari (gI MX 386) ∨ (2 : Int32) ≤ gA MY 22 (dp - 1)) (h41 : gI MY 41 = nI dp) (hdp : 1 ≤ dp ∧ dp ≤ 9) : fX12_goesOn n0 MY = fX12_goesOn_188 n0 (nI (dp - 1)) (gA MY 21 (dp - 1)) (bI (isT (gA MY 21 (dp - 1)))) MY := by
  have e8 : gI MY 8 ≤ 0 := by rw [h.f8]; exact i00
  have hcl : (nI (dp - 1)).toNatClampNeg = dp - 1 := nI_clamp (by omega)
  have o : ¬ oob (nI (dp - 1)) 20 := nI_in (by omega) (by decide)
  unfold fX12_goesOn
  refine eq_b (ylexG h hb) (eq_t e8 (eq_n ?_))
  rw [e41 h41 hdp.1]
  simp only [hcl]
  refine eq_f o (eq_n (eq_b yisT (eq_f o ?_)))
  by_cases hph : (2 : Int32) ≤ gA MY 22 (dp - 1)
  · exact eq_t hph rfl
  · have na : ¬ ari (gI MX 386) := by
      rcases hk with q | q
      · exact q
      · exact absurd q hph
    refine eq_f hph (eq_b (ySign (by decide) h) (eq_t (bI_f (fun q => na (Or.inl q))) (eq_b (ySign (by decide) h) (eq_t (bI_f (fun q => na (Or.inr (Or.inl q)))) (eq_b (ySign (by decide) h) (eq_t (bI_f (fun q => na (Or.inr (Or.inr (Or.inl q))))) (eq_b (ySign (by decide) h) (eq_t (bI_f (fun q => na (Or.inr (Or.inr (Or.inr (Or.inl q)))))) (eq_b (ySign (by decide) h) (eq_t (bI_f (fun q => na (Or.inr (Or.inr (Or.inr (Or.inr q)))))) rfl))))))))))
theorem ygoB (h : PR L s MX MY) (hb : gI MX 386 = 258) : fX12_goesOn n0 MY = some (0, sI (sI MY 8 1) 9 (gI MX 388)) := by
  unfold fX12_goesOn
  exact eq_b (ylexB h hb) (eq_f (n8f (k := 1) (by decide) (by decide)) rfl)
theorem yopB (h : PR L s MX MY) (hb : gI MX 386 = 258) : fX12_operand n0 MY = some (1, sI (sI MY 8 1) 9 (gI MX 388)) := by
  unfold fX12_operand
  exact eq_b (ylexB h hb) (eq_f (n8f (k := 1) (by decide) (by decide)) rfl)
end REACH
