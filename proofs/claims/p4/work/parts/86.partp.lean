/-! SUMS AND TESTS: min, max, if, values: every PART -/
section PP
variable {n0 L b c0 op : Nat} {rec : Nat → Int32 → Int32 → Mem → Option (Int32 × Mem)}
theorem xaddE {qf n0 : Nat} {x : Int32} {l : List Int32} {M : Mem} (h : xlist M qf l) (h257 : gR M 257 = qf) (hl : l.length < 1600) : fX3_add n0 x M = some (1, xAd qf l.length x M) := by
  unfold fX3_add
  rw [h257]
  exact eq_b (h.ad hl).1 rfl
theorem sumNF {n0 L s qf b c0 dp m bs op pw : Nat} {ly : List (Int32 × Int32)} {MX MY : Mem} {wh kf : Int32} {lxi : List Int32} {lyi : List (Int32 × Int32)} {MXi MYi : Mem} {si k : Nat} (hI : Inr n0 L s qf b c0 dp m bs op pw ly MX MY wh kf lxi lyi MXi MYi si k) (hk : kf = 3 ∨ kf = 4) : NF (dp + 1) MXi MYi := by
  obtain ⟨i1, i2, i3, i4, i5, i6, i7, i8, _⟩ := hI
  unfold NF
  rw [Nat.add_sub_cancel, i6, i8]
  exact ⟨Or.inl (by rcases hk with q | q <;> rw [q] <;> decide), by decide⟩
theorem sumQ {dp : Nat} {MY MX' MY' : Mem} (h : QSum (dp + 1) MY MX' MY') : (¬ ari (gI MX' 386) ∨ (2 : Int32) ≤ gA MY' 22 dp) ∧ (¬ isT 3 ∨ (¬ gA MY' 22 dp = 0 ∧ ¬ gI MX' 386 = 280 ∧ ¬ gI MX' 386 = 279)) := ⟨Or.inl h.2, Or.inl (by decide)⟩
/-- the last of it: the code of min, max, if -/
theorem pairEnd {s qf dp m bs pw : Nat} {lx lxi : List Int32} {ly lyi δ δ0 : List (Int32 × Int32)} {wh x : Int32} {MX MY MX3 MY3 : Mem} {s3 k3 : Nat} {rx : Option (Int32 × Mem)} (h : En L s qf b c0 dp m bs op pw lx ly MX MY) (hss : s < s3) (el : lxi = lx ++ exL δ0) (ely : lyi = ly ++ δ0) (hty : ∀ st : List Bool, st.length + DP op ≤ 60 → tyL (δ0 ++ δ ++ [(wh, 0)]) st = some (false :: st)) (hex : ex1 (wh, 0) = [x]) (p1 : ∀ w, YLp n0 (w + k3) MY = YLp n0 w MY3) (p2 : s + k3 ≤ s3) (p3 : PR L s3 MX3 MY3) (p4 : xlist MX3 qf (lxi ++ exL δ)) (p5 : YP b c0 dp m bs op [] (lyi ++ δ ++ [(wh, 0)]) MY3) (p6 : c0 + (lxi ++ exL δ).length + pw < s3) (p7 : gI MY3 45 = 1) (p8 : FPx qf MX MX3) (p9 : FP b (c0 + ly.length) dp m MY MY3) (p10 : gA MY3 22 (dp - 1) = gA MY 22 (dp - 1)) (p11 : gA MY3 23 (dp - 1) = 0) (p13 : (lxi ++ exL δ).length < 1600) (hrx : rx = some (1, xAd qf (lxi ++ exL δ).length x MX3)) :
    Ok n0 L s qf b c0 dp m bs op pw lx ly MX MY 0 6 (DP op) false (QPart dp MY) rx := by
  have hq := h.2.2.1
  have ee : exL (δ0 ++ δ ++ [(wh, 0)]) = exL δ0 ++ exL δ ++ [x] := by rw [exL_app, exL_app, exL_one, hex]
  subst el ely
  refine ⟨_, MY3, s3, k3, δ0 ++ δ ++ [(wh, 0)], [], ly ++ (δ0 ++ δ ++ [(wh, 0)]), hrx, ⟨p1, p2, hss, p3.xad hq, ?_, by simpa using p5, by simp [fl], fun o ho => by simp at ho, by simp, ?_, p7, hty, by simp; omega, p8.tr xAd_FP, p9, by simp⟩, p10, p11⟩
  · rw [ee, ← List.append_assoc, ← List.append_assoc]
    exact (p4.ad (n0 := 0) p13).2
  · rw [ee]
    simp only [List.length_append, List.length_cons, List.length_nil] at p6 ⊢
    omega
theorem pairP {x2 : Int32} (hn : 1601 ≤ n0) (hSum : op < 7 → SSum n0 L b c0 (op + 1) (fun M => rec 0 (nI (op + 1)) 0 M)) : SPart n0 L b c0 op (fun M => (gI M 386 = 283 ∧ x2 = -12) ∨ (gI M 386 = 284 ∧ x2 = -13)) (fun M => fX3_readPair n0 rec (nI op) x2 M) := by
  intro s qf dp m bs pw lx ly MX MY h hk hN hm
  have hdp := h.2.2.2.2.1.2.2.2.1
  have hbs := h.2.2.2.2.1.2.2.2.2.2.1
  have hk3 : gI MX 386 = 283 ∨ gI MX 386 = 284 ∨ gI MX 386 = 278 := by
    rcases hk with q | q
    · exact Or.inl q.1
    · exact Or.inr (Or.inl q.1)
  have hw44 : ¬ (if gI MX 386 = 283 then (36 : Int32) else if gI MX 386 = 284 then 37 else 44) = 44 := by
    rcases hk with q | q
    · rw [if_pos q.1]; decide
    · rw [q.1]; decide
  have hex : ex1 (if gI MX 386 = 283 then (36 : Int32) else if gI MX 386 = 284 then 37 else 44, 0) = [x2] := by
    rcases hk with q | q
    · rw [if_pos q.1, q.2]; decide
    · rw [q.1, q.2]; decide
  have hty1 : ∀ st : List Bool, ty1 (if gI MX 386 = 283 then (36 : Int32) else if gI MX 386 = 284 then 37 else 44, 0) (false :: false :: st) = some (false :: st) := by
    intro st
    rcases hk with q | q
    · rw [if_pos q.1]; rfl
    · rw [q.1]; rfl
  show Ok n0 L s qf b c0 dp m bs op pw lx ly MX MY 0 6 (DP op) false (QPart dp MY) (fX3_readPair n0 rec (nI op) x2 MX) ∨ Bad n0 s qf b c0 dp m ly MX MY (fX3_readPair n0 rec (nI op) x2 MX)
  rcases kwOpen (n0 := n0) hn h hk3 hN rfl with ⟨MXa, MXf, ea, eg, hB⟩ | ⟨h7, MXa, MX1, MY1, s1, ea, eg, hI1, -⟩
  · right
    refine hB _ ?_
    unfold fX3_readPair
    exact eq_b ea (eq_b eg (eq_t rfl rfl))
  rw [if_neg hw44] at hI1
  have s1s := hI1.2.1
  rcases inrC (g := fun M => rec 0 (nI (op + 1)) 0 M) hn hI1 (Or.inl rfl) (by decide) hdp.1 (hSum h7 _ _ _ _ _ _ _ _ _ _ hI1.2.2.2.2.1 (sumNF hI1 (Or.inl rfl)) (Or.inl rfl) (by omega)) (fun MX' MY' _ q => sumQ q) with ⟨MXf, e1, hB⟩ | ⟨MX2, MXf, e1, e2, hB⟩ | ⟨MX2, MX3, MY3, s3, k3, δ1, e1, e2, ty1', l1, hI3⟩
  · right
    refine hB _ ?_
    unfold fX3_readPair
    rw [nI_1]
    exact eq_b ea (eq_b eg (eq_f i10 (eq_b e1 (eq_t rfl rfl))))
  · right
    refine hB _ ?_
    unfold fX3_readPair
    rw [nI_1]
    exact eq_b ea (eq_b eg (eq_f i10 (eq_b e1 (eq_f i10 (eq_b e2 (eq_t rfl rfl))))))
  rw [if_pos rfl] at hI3
  rcases inrE (g := fun M => rec 0 (nI (op + 1)) 0 M) hn hI3 hdp.1 hbs (hSum h7 _ _ _ _ _ _ _ _ _ _ hI3.2.2.2.2.1 (sumNF hI3 (Or.inr rfl)) (Or.inl rfl) (by omega)) with ⟨MXf, e3, hB⟩ | ⟨MX4, MXf, e3, e4, hB⟩ | ⟨MX4, MX5, MY5, s5, k5, δ2, e3, e4, ty2', l2, p1, p2, p3, p4, p5, p6, p7, p8, p9, p10, p11, p12, p13⟩
  · right
    refine hB _ ?_
    unfold fX3_readPair
    rw [nI_1]
    exact eq_b ea (eq_b eg (eq_f i10 (eq_b e1 (eq_f i10 (eq_b e2 (eq_f i10 (eq_b e3 (eq_t rfl rfl))))))))
  · right
    refine hB _ ?_
    unfold fX3_readPair
    rw [nI_1]
    exact eq_b ea (eq_b eg (eq_f i10 (eq_b e1 (eq_f i10 (eq_b e2 (eq_f i10 (eq_b e3 (eq_f i10 (eq_b e4 (eq_t rfl rfl))))))))))
  left
  refine pairEnd (δ0 := δ1) (x := x2) h p2.2 rfl rfl (fun st hst => ?_) hex p1 p2.1 p3 p4 p5 p6 p7 p8 p9 p10 p11 p13 ?_
  · unfold DP at hst ty1' ty2'
    rw [tyL_app, tyL_app, ty1' st (by omega)]
    show ((tyL δ2 (false :: st)).bind (tyL _)) = _
    rw [ty2' (false :: st) (by simp; omega)]
    show tyL [_] (false :: false :: st) = _
    rw [tyL_one]
    exact hty1 st
  · unfold fX3_readPair
    rw [nI_1]
    exact eq_b ea (eq_b eg (eq_f i10 (eq_b e1 (eq_f i10 (eq_b e2 (eq_f i10 (eq_b e3 (eq_f i10 (eq_b e4 (eq_f i10 (eq_b (xaddE p4 p12 p13) (eq_f i10 rfl))))))))))))
theorem choiceP (hn : 1601 ≤ n0) (hSum : op < 7 → SSum n0 L b c0 (op + 1) (fun M => rec 0 (nI (op + 1)) 0 M)) (hTest : op < 7 → STest n0 L b c0 (op + 1) (fun M => rec 5 (nI (op + 1)) 0 M)) : SPart n0 L b c0 op (fun M => gI M 386 = 278) (fun M => fX3_readChoice n0 rec (nI op) M) := by
  intro s qf dp m bs pw lx ly MX MY h hk hN hm
  have hdp := h.2.2.2.2.1.2.2.2.1
  have hbs := h.2.2.2.2.1.2.2.2.2.2.1
  have hwh : (44 : Int32) = if gI MX 386 = 283 then 36 else if gI MX 386 = 284 then 37 else 44 := by rw [hk]; decide
  show Ok n0 L s qf b c0 dp m bs op pw lx ly MX MY 0 6 (DP op) false (QPart dp MY) (fX3_readChoice n0 rec (nI op) MX) ∨ Bad n0 s qf b c0 dp m ly MX MY (fX3_readChoice n0 rec (nI op) MX)
  rcases kwOpen (n0 := n0) hn h (Or.inr (Or.inr hk)) hN hwh with ⟨MXa, MXf, ea, eg, hB⟩ | ⟨h7, MXa, MX1, MY1, s1, ea, eg, hI1, b23⟩
  · right
    refine hB _ ?_
    unfold fX3_readChoice
    exact eq_b ea (eq_b eg (eq_t rfl rfl))
  rw [if_pos rfl] at hI1
  have tp : TPre (dp + 1) MY1 := by
    unfold TPre
    rw [Nat.add_sub_cancel, hI1.2.2.2.2.2.1, hI1.2.2.2.2.2.2.2.1, b23]
    decide
  rcases inrC (g := fun M => rec 5 (nI (op + 1)) 0 M) hn hI1 (Or.inr rfl) (by decide) hdp.1 (hTest h7 _ _ _ _ _ _ _ _ _ _ hI1.2.2.2.2.1 tp rfl (by omega)) (fun MX' MY' _ q => by
      have q1 : gA MY' 22 dp = 2 ∨ (gA MY' 22 dp = 1 ∧ ¬ ari (gI MX' 386)) := q.1
      refine ⟨?_, Or.inr ⟨?_, q.2.1, q.2.2⟩⟩
      · rcases q1 with z | z
        · exact Or.inr (by rw [z]; decide)
        · exact Or.inl z.2
      · rcases q1 with z | z
        · rw [z]; decide
        · rw [z.1]; decide) with ⟨MXf, e1, hB⟩ | ⟨MX2, MXf, e1, e2, hB⟩ | ⟨MX2, MX3, MY3, s3, k3, δ1, e1, e2, ty1', l1, hI3⟩
  · right
    refine hB _ ?_
    unfold fX3_readChoice
    rw [nI_1]
    exact eq_b ea (eq_b eg (eq_f i10 (eq_b e1 (eq_t rfl rfl))))
  · right
    refine hB _ ?_
    unfold fX3_readChoice
    rw [nI_1]
    exact eq_b ea (eq_b eg (eq_f i10 (eq_b e1 (eq_f i10 (eq_b e2 (eq_t rfl rfl))))))
  rw [if_neg (by decide)] at hI3
  rcases inrC (g := fun M => rec 0 (nI (op + 1)) 0 M) hn hI3 (Or.inl rfl) (by decide) hdp.1 (hSum h7 _ _ _ _ _ _ _ _ _ _ hI3.2.2.2.2.1 (sumNF hI3 (Or.inl rfl)) (Or.inl rfl) (by omega)) (fun MX' MY' _ q => sumQ q) with ⟨MXf, e3, hB⟩ | ⟨MX4, MXf, e3, e4, hB⟩ | ⟨MX4, MX5, MY5, s5, k5, δ2, e3, e4, ty2', l2, hI5⟩
  · right
    refine hB _ ?_
    unfold fX3_readChoice
    rw [nI_1]
    exact eq_b ea (eq_b eg (eq_f i10 (eq_b e1 (eq_f i10 (eq_b e2 (eq_f i10 (eq_b e3 (eq_t rfl rfl))))))))
  · right
    refine hB _ ?_
    unfold fX3_readChoice
    rw [nI_1]
    exact eq_b ea (eq_b eg (eq_f i10 (eq_b e1 (eq_f i10 (eq_b e2 (eq_f i10 (eq_b e3 (eq_f i10 (eq_b e4 (eq_t rfl rfl))))))))))
  rw [if_pos rfl] at hI5
  rcases inrE (g := fun M => rec 0 (nI (op + 1)) 0 M) hn hI5 hdp.1 hbs (hSum h7 _ _ _ _ _ _ _ _ _ _ hI5.2.2.2.2.1 (sumNF hI5 (Or.inr rfl)) (Or.inl rfl) (by omega)) with ⟨MXf, e5, hB⟩ | ⟨MX6, MXf, e5, e6, hB⟩ | ⟨MX6, MX7, MY7, s7, k7, δ3, e5, e6, ty3', l3, p1, p2, p3, p4, p5, p6, p7, p8, p9, p10, p11, p12, p13⟩
  · right
    refine hB _ ?_
    unfold fX3_readChoice
    rw [nI_1]
    exact eq_b ea (eq_b eg (eq_f i10 (eq_b e1 (eq_f i10 (eq_b e2 (eq_f i10 (eq_b e3 (eq_f i10 (eq_b e4 (eq_f i10 (eq_b e5 (eq_t rfl rfl))))))))))))
  · right
    refine hB _ ?_
    unfold fX3_readChoice
    rw [nI_1]
    exact eq_b ea (eq_b eg (eq_f i10 (eq_b e1 (eq_f i10 (eq_b e2 (eq_f i10 (eq_b e3 (eq_f i10 (eq_b e4 (eq_f i10 (eq_b e5 (eq_f i10 (eq_b e6 (eq_t rfl rfl))))))))))))))
  left
  have hx12 : lx ++ exL δ1 ++ exL δ2 = lx ++ exL (δ1 ++ δ2) := by rw [exL_app, List.append_assoc]
  have hy12 : ly ++ δ1 ++ δ2 = ly ++ (δ1 ++ δ2) := List.append_assoc _ _ _
  refine pairEnd (δ0 := δ1 ++ δ2) (x := -14) h p2.2 hx12 hy12 (fun st hst => ?_) (by decide) p1 p2.1 p3 p4 p5 p6 p7 p8 p9 p10 p11 p13 ?_
  · unfold DP at hst ty1' ty2' ty3'
    rw [tyL_app, tyL_app, tyL_app, ty1' st (by omega)]
    show (((tyL δ2 (true :: st)).bind (tyL δ3)).bind (tyL _)) = _
    rw [ty2' (true :: st) (by simp; omega)]
    show ((tyL δ3 (false :: true :: st)).bind (tyL _)) = _
    rw [ty3' (false :: true :: st) (by simp; omega)]
    show tyL [((44 : Int32), (0 : Int32))] (false :: false :: true :: st) = _
    rw [tyL_one]
    rfl
  · unfold fX3_readChoice
    rw [nI_1]
    exact eq_b ea (eq_b eg (eq_f i10 (eq_b e1 (eq_f i10 (eq_b e2 (eq_f i10 (eq_b e3 (eq_f i10 (eq_b e4 (eq_f i10 (eq_b e5 (eq_f i10 (eq_b e6 (eq_f i10 (eq_b (xaddE p4 p12 p13) (eq_f i10 rfl))))))))))))))))
end PP
