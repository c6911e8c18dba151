/-! STATEMENTS: says, gone, put together -/
theorem FPx.q {q wh : Nat} {M M' : Mem} (hq : q = 31 ∨ q = 47) (hwh : wh ≤ 1) (h : FPx (q + 12 + 2 * wh) M M') : FX2 q M M' := ⟨fun k r => h.1 k (by unfold rgX at r; omega), fun a r => h.2.1 a (by omega), fun k _ => by rw [h.2.2]⟩
theorem yStart_FY {b : Nat} {k : Int32} {M : Mem} : FY2 b M (yStart M k) := by
  unfold yStart
  refine ((((((((FY2.r.i ?_).i ?_).i ?_).i ?_).a ?_).a ?_).a ?_).a ?_).i ?_ <;> first | (unfold regI; omega) | (unfold regA; omega)
theorem phrS {n0 L s q b nt nc nd nr C wh rl r D : Nat} {t : Bool} {MX MY : Mem} {fl' : Int32} {Q : Mem → Mem → Prop} {g : Mem → Option (Int32 × Mem)} (hn : 1700 ≤ n0) (hwh : wh ≤ 1) (h : Rd L s q b nt nc nd nr C MX MY) (hz : gI MX (128 * (q + 12 + 2 * wh) + 1) = 0) (hf : (fl' = 0 ∧ t = decide (wh = 1) ∧ wh = 0) ∨ (fl' = 1 ∧ t = decide (wh = 1) ∧ wh = 1)) (hr : 1 ≤ r) (hD : D ≤ 60)
    (hR : ∀ MYb, MYb = yStart (sA (sI MY 35 fl') 14 (2 * b + wh) (nI C)) fl' → En L s (q + 12 + 2 * wh) b C 1 0 0 0 0 [] [] (sI (sR MX 257 (q + 12 + 2 * wh)) 258 fl') MYb → Ok n0 L s (q + 12 + 2 * wh) b C 1 0 0 0 0 [] [] (sI (sR MX 257 (q + 12 + 2 * wh)) 258 fl') MYb rl r D t Q (g (sI (sR MX 257 (q + 12 + 2 * wh)) 258 fl')) ∨ Bad n0 s (q + 12 + 2 * wh) b C 1 0 [] (sI (sR MX 257 (q + 12 + 2 * wh)) 258 fl') MYb (g (sI (sR MX 257 (q + 12 + 2 * wh)) 258 fl')))
    (hQ : ∀ MX' MY', Q MX' MY' → (¬ ari (gI MX' 386) ∨ (2 : Int32) ≤ gA MY' 22 0) ∧ (¬ isT fl' ∨ (¬ gA MY' 22 0 = 0 ∧ ¬ gI MX' 386 = 280 ∧ ¬ gI MX' 386 = 279))) :
    (∃ MX' MY' s' C', g (sI (sR MX 257 (q + 12 + 2 * wh)) 258 fl') = some (1, MX') ∧ fX12_reading_67 n0 (nI (2 * b + wh)) fl' (sA (sI MY 35 fl') 14 (2 * b + wh) (nI C)) = some MY' ∧ s < s' ∧ Rd L s' q b nt nc nd nr C' MX' MY' ∧ FX2 q MX MX' ∧ FY2 b MY MY') ∨
    (∃ MX' MY', g (sI (sR MX 257 (q + 12 + 2 * wh)) 258 fl') = some (0, MX') ∧ fX12_reading_67 n0 (nI (2 * b + wh)) fl' (sA (sI MY 35 fl') 14 (2 * b + wh) (nI C)) = some MY' ∧ Flt MX' MY' ∧ FX2 q MX MX' ∧ FY2 b MY MY') ∨
    (∃ MX' MY', g (sI (sR MX 257 (q + 12 + 2 * wh)) 258 fl') = some (1, MX') ∧ fX12_reading_67 n0 (nI (2 * b + wh)) fl' (sA (sI MY 35 fl') 14 (2 * b + wh) (nI C)) = some MY' ∧ gI MX' 386 = 258 ∧ gI MY' 8 = 1 ∧ gI MY' 9 = gI MX' 388 ∧ FX2 q MX MX' ∧ FY2 b MY MY') := by
  obtain ⟨hP, hA, hT, hC, hCs⟩ := h
  have hq := hA.2.1
  have hb1 := hA.2.2.2
  have hf01 : fl' = 0 ∨ fl' = 1 := by
    rcases hf with z | z
    · exact Or.inl z.1
    · exact Or.inr z.1
  have hE := startEn (fl' := fl') hq hwh hP hA.2.2.1 hb1 hC hCs hz hf01 (2 * b + wh)
  have fxa : FX2 q MX (sI (sR MX 257 (q + 12 + 2 * wh)) 258 fl') := ⟨fun k r => by rw [gI_ne (fun e => r (by unfold rgX; omega))]; rfl, fun a _ => rfl, fun k r => by show gR (sR MX 257 _) k = _; rw [gR_sR, if_neg r]⟩
  have fya : FY2 b MY (sA (sI MY 35 fl') 14 (2 * b + wh) (nI C)) := (FY2.r.i (by unfold regI; omega)).a (by unfold regA; omega)
  have fyb : FY2 b MY (yStart (sA (sI MY 35 fl') 14 (2 * b + wh) (nI C)) fl') := fya.tr yStart_FY
  have ha8 : gI (sA (sI MY 35 fl') 14 (2 * b + wh) (nI C)) 8 = 0 := hP.f8
  have o4 : ¬ oob (nI (2 * b + wh)) 4 := nI_in (by omega) (by decide)
  have c4 : (nI (2 * b + wh)).toNatClampNeg = 2 * b + wh := nI_clamp (by omega)
  have er67 : ∀ M', YLp n0 n0 (yStart (sA (sI MY 35 fl') 14 (2 * b + wh) (nI C)) fl') = some M' → fX12_reading_67 n0 (nI (2 * b + wh)) fl' (sA (sI MY 35 fl') 14 (2 * b + wh) (nI C)) = some (sA M' 15 (2 * b + wh) (gI M' 33)) := fun M' e => by
    unfold fX12_reading_67
    simp only [c4]
    exact eq_b ((ystart ha8 hf01).trans e) (eq_f o4 rfl)
  have y21 : gA (yStart (sA (sI MY 35 fl') 14 (2 * b + wh) (nI C)) fl') 21 0 = fl' := by
    unfold yStart
    show gA (sA (sA (sA (sA _ 21 0 fl') 22 0 0) 23 0 1) 25 0 0) 21 0 = _
    rw [gA_sA_ne (by decide), gA_sA_ne (by decide), gA_sA_ne (by decide), gA_sA, if_pos rfl, if_pos rfl]
  have yar : ∀ a i, ¬ 21 ≤ a → gA (yStart (sA (sI MY 35 fl') 14 (2 * b + wh) (nI C)) fl') a i = gA (sA (sI MY 35 fl') 14 (2 * b + wh) (nI C)) a i := fun a i ha => by
    unfold yStart
    show gA (sA (sA (sA (sA (sA (sI MY 35 fl') 14 (2 * b + wh) (nI C)) 21 0 fl') 22 0 0) 23 0 1) 25 0 0) a i = _
    rw [gA_sA_ne (by omega), gA_sA_ne (by omega), gA_sA_ne (by omega), gA_sA_ne (by omega)]
  rcases hR _ rfl hE with ⟨MX', MYc, s', k', δ, R, lyc, er, hS, hq'⟩ | ⟨MX', MY', kk, er, hw, hsk, hfl, gx, gy⟩
  rotate_left
  · right; left
    have hfu : n0 = n0 - kk + kk := by omega
    have e : YLp n0 n0 (yStart (sA (sI MY 35 fl') 14 (2 * b + wh) (nI C)) fl') = some MY' := by
      have := hw (n0 - kk)
      rwa [← hfu] at this
    exact ⟨MX', _, er, er67 MY' e, hfl.cong rfl rfl rfl rfl, fxa.tr (gx.q hq hwh), (fyb.tr gy.Y2).a (by unfold regA; omega)⟩
  obtain ⟨z1, z2⟩ := hQ MX' MYc hq'
  have hSS := hS
  have hlen := hS.len hE
  rcases phrEnd (n0 := n0) (k := 0) hn hE hS hr y21 hf01 z1 z2 rfl with ⟨h8, e⟩ | ⟨Mj, e, pj, yj, fj⟩
  · right; right
    refine ⟨MX', _, er, er67 _ e, h8, ?_, ?_, fxa.tr (hS.2.2.2.2.2.2.2.2.2.2.2.2.2.1.q hq hwh), ?_⟩
    · show gI (sI (sI MYc 8 1) 9 (gI MX' 388)) 8 = 1
      rw [g8f]
    · show gI (sI (sI MYc 8 1) 9 (gI MX' 388)) 9 = _
      rw [gI_at]
    · exact (((fyb.tr hS.2.2.2.2.2.2.2.2.2.2.2.2.2.2.1.Y2).i (by unfold regI; omega)).i (by unfold regI; omega)).a (by unfold regA; omega)
  left
  obtain ⟨a1, a2, a3, a4, a5, a6, a7, a8, a9, a10, a11, a12, a13, a14, a15, a16⟩ := hS
  have e33 : gI Mj 33 = nI (C + δ.length) := yj.2.2.2.2.2.2.2.2.2.1
  have hex := exL_len (δ := δ)
  have a10' : C + (exL δ).length ≤ s' := by simpa using a10
  have s16 := hlen.2.2.2
  have fxE : FX2 q MX MX' := fxa.tr (a14.q hq hwh)
  have fyE : FY2 b MY (sA Mj 15 (2 * b + wh) (gI Mj 33)) := (fyb.tr fj.Y2).a (by unfold regA; omega)
  refine ⟨MX', sA Mj 15 (2 * b + wh) (gI Mj 33), s', C + δ.length, er, er67 Mj e, a3, ⟨pj.ar (by decide), hA.fr fxE fyE, ?_, e33, by omega⟩, fxE, fyE⟩
  have arj : ∀ a i, ¬ 21 ≤ a → ¬ ((a = 16 ∨ a = 17) ∧ 1600 * b + C ≤ i) → gA Mj a i = gA (sA (sI MY 35 fl') 14 (2 * b + wh) (nI C)) a i := fun a i h1 h2 => by
    rw [fj.2.1 a i (by unfold pReg; omega)]
    exact yar a i h1
  refine hT.setF (C' := C + δ.length) (wh := wh) hwh (fun j h1 h2 h3 => ?_) (fun a h1 h2 h3 => ?_) (fun a i h1 h2 h3 h4 => ?_) (fun a i _ => ?_) (Or.inr ⟨C, δ, a13, Nat.le_refl _, by simpa using a5, ?_, ?_, ?_, ?_, by omega⟩) (by omega) (by omega)
  · rw [a14.1 j (by omega), gI_ne (by omega)]
    rfl
  · rw [a14.2.1 a (by omega)]
    rfl
  · rw [gA_sA]
    by_cases e15 : a = 15
    · rw [if_pos e15, if_neg (by omega), ← e15, arj a i h1 h4, gA_sA_ne (by omega)]
      rfl
    · rw [if_neg e15, arj a i h1 h4, gA_sA]
      by_cases e14 : a = 14
      · rw [if_pos e14, if_neg (by omega), e14]
        rfl
      · rw [if_neg e14]
        rfl
  · show gB Mj a i = _
    rw [fj.2.2.2 a i]
    rfl
  · rw [gA_sA_ne (by decide), arj 14 _ (by decide) (by omega), gA_sA, if_pos rfl, if_pos rfl]
  · rw [gA_sA, if_pos rfl, if_pos rfl]
    exact e33
  · have hy := yj.2.2.2.2.2.2.2.2.2.2.1
    exact hy.cong (fun i _ => ⟨by rw [gA_sA_ne (by decide)], by rw [gA_sA_ne (by decide)]⟩)
  · have ht : t = decide (wh = 1) := by
      rcases hf with z | z
      · exact z.2.1
      · exact z.2.1
    rw [← ht]
    exact a12 [] (by simpa using hD)
theorem isTold {n0 q b C wh : Nat} {MX MY : Mem} (h : FmR q b C wh MX MY) (hC : C ≤ 1600) (hb : b ≤ 1) (hwh : wh ≤ 1) : (gA MY 14 (2 * b + wh) = -1 ∧ gI MX (128 * (q + 12 + 2 * wh) + 1) = 0 ∧ fX0_isTold n0 (q + 12 + 2 * wh) MX = some (0, MX)) ∨ (¬ gA MY 14 (2 * b + wh) = -1 ∧ fX0_isTold n0 (q + 12 + 2 * wh) MX = some (1, MX)) := by
  rcases h with h | ⟨c0, δ, e1, e2, e3, e4, e5, e6, e7, e8⟩
  · left
    refine ⟨h.2, h.1, ?_⟩
    unfold fX0_isTold
    exact eq_t (by rw [h.1]; exact i00) rfl
  · right
    refine ⟨by rw [e4]; exact nI_m1 (by omega), ?_⟩
    have := exL_len (δ := δ)
    unfold fX0_isTold
    exact eq_f (by rw [e3.1]; exact nI_nle (by omega) (by omega)) rfl
theorem saysS {n0 L s q b nt nc nd nr C : Nat} {MX MY : Mem} (hn : 1700 ≤ n0) (h : Rd L s q b nt nc nd nr C MX MY) (hk : gI MX 386 = 272) {rx : Option (Int32 × Mem)} (hrx : rx = (fX0_isTold n0 ((gR MX 130) + 12) MX).bind fun z256 => if z256.1 = 0 then fX4_readStatement_267 n0 (1 : Int32) z256.2 else fX4_readStatement_267 n0 (0 : Int32) z256.2) : StO L s q b MX MY rx (fX12_reading n0 0 MY) ∨ Odd q b MX MY rx (fX12_reading n0 0 MY) := by
  have hh := h
  obtain ⟨hP, hA, hT, hC, hCs⟩ := h
  have hb := hA.2.2.2
  have q7 := hA.2.1
  have o4 : ¬ oob (nI (2 * b + 0)) 4 := nI_in (by omega) (by decide)
  have e2 : (2 : Int32) * gI MY 34 + 0 = nI (2 * b + 0) := by
    rw [hA.2.2.1, show (0 : Int32) = nI 0 from rfl, ← nI_add, ← nI_mul]
    rfl
  have c4 : (nI (2 * b + 0)).toNatClampNeg = 2 * b + 0 := nI_clamp (by omega)
  have hrd : ∀ (u : Int32) r, (gA MY 14 (2 * b + 0) = -1 → u = 0) → (¬ gA MY 14 (2 * b + 0) = -1 → u = 1) → fX12_reading_25 n0 0 (nI (2 * b + 0)) u MY = r → fX12_reading n0 0 MY = r := fun u r h0 h1 hr => by
    unfold fX12_reading
    refine eq_n ?_
    rw [e2]
    simp only [c4]
    refine eq_f o4 ?_
    by_cases g : gA MY 14 (2 * b + 0) = -1
    · rw [h0 g] at hr
      exact eq_t g hr
    · rw [h1 g] at hr
      exact eq_f g hr
  rcases isTold (n0 := n0) (q := q) (wh := 0) hT.2.2.2.2.2.2.1 hT.2.2.2.2.2.2.2.2 hb (by decide) with ⟨t1, t2, t3⟩ | ⟨t1, t3⟩
  · obtain ⟨-, f2⟩ := fstP (n0 := n0) (full := False) (by omega) hP (by rw [hk]; decide) (by rw [hk]; decide)
    obtain ⟨MX1, MY1, s1, ex1, ey1, hs1, hP1, fx1, fy1⟩ := f2 id
    rw [bI_t (show ¬ False from id)] at ex1
    rw [bI_f (show ¬ False from id)] at ey1
    have hR1 : Rd L s1 q b nt nc nd nr C MX1 MY1 := ⟨hP1, hA.fr fx1.q fy1.b, hT.tok q7 fx1 fy1, (fy1.1 33 (by omega)).trans hC, by omega⟩
    have x130 : gR MX1 130 = q := hR1.2.1.1
    have key := phrS (n0 := n0) (wh := 0) (fl' := 0) (t := false) (g := fun M => recX3 n0 100 0 0 0 M) (rl := 2) (r := 5) (D := DP 0 + 2) hn (by decide) hR1 (by rw [fx1.2 _ (by omega)]; exact t2) (Or.inl ⟨rfl, rfl, rfl⟩) (by decide) (by decide) (Q := fun MX' MY' => ¬ ari (gI MX' 386)) (fun MYb eb hE => by
      have y21 : gA MYb 21 0 = 0 := by
        rw [eb]
        unfold yStart
        show gA (sA (sA (sA (sA _ 21 0 0) 22 0 0) 23 0 1) 25 0 0) 21 0 = _
        rw [gA_sA_ne (by decide), gA_sA_ne (by decide), gA_sA_ne (by decide), gA_sA, if_pos rfl, if_pos rfl]
      have y22 : gA MYb 22 0 = 0 := by
        rw [eb]
        unfold yStart
        show gA (sA (sA (sA _ 22 0 0) 23 0 1) 25 0 0) 22 0 = _
        rw [gA_sA_ne (by decide), gA_sA_ne (by decide), gA_sA, if_pos rfl, if_pos rfl]
      rcases ((allS (n0 := n0) (L := L) (b := b) (c0 := C) (by omega) 100) 0 (by decide)).2.2.2.2.1 (by decide) s1 _ 1 0 0 0 [] [] _ MYb hE ⟨Or.inl (by show ¬ isT (gA MYb 21 0); rw [y21]; decide), by show ¬ (2 : Int32) ≤ gA MYb 22 0; rw [y22]; decide⟩ (Or.inl rfl) (by decide) with ⟨A, B, C', D', E', F', G', q1, q2, q3⟩ | z
      · exact Or.inl ⟨A, B, C', D', E', F', G', q1, q2, q3.2⟩
      · exact Or.inr z) (fun MX' MY' z => ⟨Or.inl z, Or.inl (by decide)⟩)
    have yrd : ∀ r, fX12_reading_67 n0 (nI (2 * b + 0)) 0 (sA (sI MY1 35 0) 14 (2 * b + 0) (nI C)) = r → fX12_reading n0 0 MY = r := fun r hr => by
      refine hrd 0 r (fun _ => rfl) (fun g => absurd t1 g) ?_
      unfold fX12_reading_25 fX12_reading_43
      simp only [c4]
      refine eq_b ey1 (eq_f i10 (eq_f (by decide) (eq_t (by simp) (eq_n (eq_f o4 (eq_n (eq_f (by decide) ?_)))))))
      have e33 : gI (sI MY1 35 0) 33 = nI C := by rw [gI_ne (by decide)]; exact hR1.2.2.2.1
      show fX12_reading_67 n0 (nI (2 * b + 0)) 0 (sA (sI MY1 35 0) 14 (2 * b + 0) (gI (sI MY1 35 0) 33)) = r
      rw [e33]
      exact hr
    have xrd : ∀ v M, (v = 0 ∨ v = 1) → recX3 n0 100 0 0 0 (sI (sR MX1 257 (q + 12 + 2 * 0)) 258 0) = some (v, M) → rx = some (v, M) := fun v M hv e => by
      rw [hrx]
      have t3' : fX0_isTold n0 (gR MX 130 + 12) MX = some (0, MX) := by rw [hA.1]; exact t3
      refine eq_b t3' (eq_t rfl ?_)
      unfold fX4_readStatement_267 fX3_readSays
      rw [← x130] at e
      rcases hv with z | z
      · subst z
        exact eq_b ex1 (eq_f i10 (eq_b (eq_n (eq_n (eq_b e (eq_t (Or.inl rfl) rfl)))) (eq_t rfl rfl)))
      · subst z
        exact eq_b ex1 (eq_f i10 (eq_b (eq_n (eq_n (eq_b e (eq_t (Or.inr rfl) rfl)))) (eq_f i10 rfl)))
    rcases key with ⟨MX', MY', s', C', k1, k2, k3, k4, k5, k6⟩ | ⟨MX', MY', k1, k2, k3, k4, k5⟩ | ⟨MX', MY', k1, k2, k3, k4, k5, k6, k7⟩
    · exact Or.inl (Or.inl ⟨MX', MY', s', nt, nc, nd, nr, C', xrd 1 MX' (Or.inr rfl) k1, yrd _ k2, by omega, k4, fx1.q.tr k5, fy1.b.tr k6⟩)
    · exact Or.inl (Or.inr ⟨MX', MY', xrd 0 MX' (Or.inl rfl) k1, yrd _ k2, k3, fx1.q.tr k4, fy1.b.tr k5⟩)
    · exact Or.inr ⟨MX', MY', xrd 1 MX' (Or.inr rfl) k1, yrd _ k2, k3, k4, k5, fx1.q.tr k6, fy1.b.tr k7⟩
  · obtain ⟨f1, -⟩ := fstP (n0 := n0) (full := True) (by omega) hP (by rw [hk]; decide) (by rw [hk]; decide)
    obtain ⟨g1, g2⟩ := f1 trivial
    rw [bI_f (show ¬ ¬ True from fun g => g trivial)] at g1
    rw [bI_t (show True from trivial)] at g2
    left; right
    refine ⟨sI (sI MX 391 6) 392 (nI s), sI (sI MY 8 6) 9 (nI s), ?_, hrd 1 _ (fun g => absurd g t1) (fun _ => rfl) ?_, Flt.mk (k := 6) (by decide) (by decide), FIf.q, FYf.b⟩
    · rw [hrx]
      have t3' : fX0_isTold n0 (gR MX 130 + 12) MX = some (1, MX) := by rw [hA.1]; exact t3
      refine eq_b t3' (eq_f i10 ?_)
      unfold fX4_readStatement_267
      exact eq_b g1 (eq_t rfl rfl)
    · unfold fX12_reading_25
      exact eq_b g2 (eq_t rfl rfl)
theorem goneS {n0 L s q b nt nc nd nr C : Nat} {MX MY : Mem} (hn : 1700 ≤ n0) (h : Rd L s q b nt nc nd nr C MX MY) (hk : gI MX 386 = 273) {rx : Option (Int32 × Mem)} (hrx : rx = (fX0_isTold n0 ((gR MX 130) + 14) MX).bind fun z304 => if z304.1 = 0 then fX4_readStatement_315 n0 (1 : Int32) z304.2 else fX4_readStatement_315 n0 (0 : Int32) z304.2) : StO L s q b MX MY rx (fX12_reading n0 1 MY) ∨ Odd q b MX MY rx (fX12_reading n0 1 MY) := by
  have hh := h
  obtain ⟨hP, hA, hT, hC, hCs⟩ := h
  have hb := hA.2.2.2
  have q7 := hA.2.1
  have o4 : ¬ oob (nI (2 * b + 1)) 4 := nI_in (by omega) (by decide)
  have e2 : (2 : Int32) * gI MY 34 + 1 = nI (2 * b + 1) := by
    rw [hA.2.2.1, show (1 : Int32) = nI 1 from rfl, ← nI_add, ← nI_mul]
    rfl
  have c4 : (nI (2 * b + 1)).toNatClampNeg = 2 * b + 1 := nI_clamp (by omega)
  have hrd : ∀ (u : Int32) r, (gA MY 14 (2 * b + 1) = -1 → u = 0) → (¬ gA MY 14 (2 * b + 1) = -1 → u = 1) → fX12_reading_25 n0 1 (nI (2 * b + 1)) u MY = r → fX12_reading n0 1 MY = r := fun u r h0 h1 hr => by
    unfold fX12_reading
    refine eq_n ?_
    rw [e2]
    simp only [c4]
    refine eq_f o4 ?_
    by_cases g : gA MY 14 (2 * b + 1) = -1
    · rw [h0 g] at hr
      exact eq_t g hr
    · rw [h1 g] at hr
      exact eq_f g hr
  rcases isTold (n0 := n0) (q := q) (wh := 1) hT.2.2.2.2.2.2.2.1 hT.2.2.2.2.2.2.2.2 hb (by decide) with ⟨t1, t2, t3⟩ | ⟨t1, t3⟩
  · obtain ⟨-, f2⟩ := fstP (n0 := n0) (full := False) (by omega) hP (by rw [hk]; decide) (by rw [hk]; decide)
    obtain ⟨MX1, MY1, s1, ex1, ey1, hs1, hP1, fx1, fy1⟩ := f2 id
    rw [bI_t (show ¬ False from id)] at ex1
    rw [bI_f (show ¬ False from id)] at ey1
    have hR1 : Rd L s1 q b nt nc nd nr C MX1 MY1 := ⟨hP1, hA.fr fx1.q fy1.b, hT.tok q7 fx1 fy1, (fy1.1 33 (by omega)).trans hC, by omega⟩
    have x130 : gR MX1 130 = q := hR1.2.1.1
    have key := phrS (n0 := n0) (wh := 1) (fl' := 1) (t := true) (g := fun M => recX3 n0 100 5 0 0 M) (rl := 5 + (7 - 0)) (r := 1) (D := DP 0 + 5) hn (by decide) hR1 (by rw [fx1.2 _ (by omega)]; exact t2) (Or.inr ⟨rfl, rfl, rfl⟩) (by decide) (by decide) (Q := fun MX' MY' => QTest 1 MX' MY') (fun MYb eb hE => by
      have y21 : gA MYb 21 0 = 1 := by
        rw [eb]
        unfold yStart
        show gA (sA (sA (sA (sA _ 21 0 1) 22 0 0) 23 0 1) 25 0 0) 21 0 = _
        rw [gA_sA_ne (by decide), gA_sA_ne (by decide), gA_sA_ne (by decide), gA_sA, if_pos rfl, if_pos rfl]
      have y22 : gA MYb 22 0 = 0 := by
        rw [eb]
        unfold yStart
        show gA (sA (sA (sA _ 22 0 0) 23 0 1) 25 0 0) 22 0 = _
        rw [gA_sA_ne (by decide), gA_sA_ne (by decide), gA_sA, if_pos rfl, if_pos rfl]
      have y23 : gA MYb 23 0 = 1 := by
        rw [eb]
        unfold yStart
        show gA (sA (sA _ 23 0 1) 25 0 0) 23 0 = _
        rw [gA_sA_ne (by decide), gA_sA, if_pos rfl, if_pos rfl]
      exact ((allS (n0 := n0) (L := L) (b := b) (c0 := C) (by omega) 100) 0 (by decide)).1 (by decide) s1 _ 1 0 0 0 [] [] _ MYb hE ⟨by show isT (gA MYb 21 0); rw [y21]; decide, y22, y23⟩ rfl (by decide)) (fun MX' MY' z => by
      have z1 : gA MY' 22 0 = 2 ∨ (gA MY' 22 0 = 1 ∧ ¬ ari (gI MX' 386)) := z.1
      refine ⟨?_, Or.inr ⟨?_, z.2.1, z.2.2⟩⟩
      · rcases z1 with w | w
        · exact Or.inr (by rw [w]; decide)
        · exact Or.inl w.2
      · rcases z1 with w | w
        · rw [w]; decide
        · rw [w.1]; decide)
    have yrd : ∀ r, fX12_reading_67 n0 (nI (2 * b + 1)) 1 (sA (sI MY1 35 1) 14 (2 * b + 1) (nI C)) = r → fX12_reading n0 1 MY = r := fun r hr => by
      refine hrd 0 r (fun _ => rfl) (fun g => absurd t1 g) ?_
      unfold fX12_reading_25 fX12_reading_43
      simp only [c4]
      refine eq_b ey1 (eq_f i10 (eq_t (by simp) (eq_t (by simp) (eq_n (eq_f o4 (eq_n (eq_t (by simp) ?_)))))))
      have e33 : gI (sI MY1 35 1) 33 = nI C := by rw [gI_ne (by decide)]; exact hR1.2.2.2.1
      show fX12_reading_67 n0 (nI (2 * b + 1)) 1 (sA (sI MY1 35 1) 14 (2 * b + 1) (gI (sI MY1 35 1) 33)) = r
      rw [e33]
      exact hr
    have xrd : ∀ v M, (v = 0 ∨ v = 1) → recX3 n0 100 5 0 0 (sI (sR MX1 257 (q + 12 + 2 * 1)) 258 1) = some (v, M) → rx = some (v, M) := fun v M hv e => by
      rw [hrx]
      have t3' : fX0_isTold n0 (gR MX 130 + 14) MX = some (0, MX) := by rw [hA.1]; exact t3
      refine eq_b t3' (eq_t rfl ?_)
      unfold fX4_readStatement_315 fX3_readGone
      rw [← x130] at e
      rcases hv with z | z
      · subst z
        exact eq_b ex1 (eq_f i10 (eq_b (eq_n (eq_n (eq_b e (eq_t (Or.inl rfl) rfl)))) (eq_t rfl rfl)))
      · subst z
        exact eq_b ex1 (eq_f i10 (eq_b (eq_n (eq_n (eq_b e (eq_t (Or.inr rfl) rfl)))) (eq_f i10 rfl)))
    rcases key with ⟨MX', MY', s', C', k1, k2, k3, k4, k5, k6⟩ | ⟨MX', MY', k1, k2, k3, k4, k5⟩ | ⟨MX', MY', k1, k2, k3, k4, k5, k6, k7⟩
    · exact Or.inl (Or.inl ⟨MX', MY', s', nt, nc, nd, nr, C', xrd 1 MX' (Or.inr rfl) k1, yrd _ k2, by omega, k4, fx1.q.tr k5, fy1.b.tr k6⟩)
    · exact Or.inl (Or.inr ⟨MX', MY', xrd 0 MX' (Or.inl rfl) k1, yrd _ k2, k3, fx1.q.tr k4, fy1.b.tr k5⟩)
    · exact Or.inr ⟨MX', MY', xrd 1 MX' (Or.inr rfl) k1, yrd _ k2, k3, k4, k5, fx1.q.tr k6, fy1.b.tr k7⟩
  · obtain ⟨f1, -⟩ := fstP (n0 := n0) (full := True) (by omega) hP (by rw [hk]; decide) (by rw [hk]; decide)
    obtain ⟨g1, g2⟩ := f1 trivial
    rw [bI_f (show ¬ ¬ True from fun g => g trivial)] at g1
    rw [bI_t (show True from trivial)] at g2
    left; right
    refine ⟨sI (sI MX 391 6) 392 (nI s), sI (sI MY 8 6) 9 (nI s), ?_, hrd 1 _ (fun g => absurd g t1) (fun _ => rfl) ?_, Flt.mk (k := 6) (by decide) (by decide), FIf.q, FYf.b⟩
    · rw [hrx]
      have t3' : fX0_isTold n0 (gR MX 130 + 14) MX = some (1, MX) := by rw [hA.1]; exact t3
      refine eq_b t3' (eq_f i10 ?_)
      unfold fX4_readStatement_315
      exact eq_b g1 (eq_t rfl rfl)
    · unfold fX12_reading_25
      exact eq_b g2 (eq_t rfl rfl)
