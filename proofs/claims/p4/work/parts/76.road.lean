/-! STATEMENTS: road -/
section RD
variable {n0 q nr : Nat} {x1 x2 : Int32} {M : Mem}
theorem xr62 {k2 : Int32 → Int32 → Int32 → Mem → Option (Int32 × Mem)} {x3 x4 u0 : Int32} (h : ¬ x4 = 0 ∨ ¬ u0 = 0) : fX9_hasRoad_62 n0 q k2 x1 x2 x3 x4 u0 M = some (1, M) := by
  unfold fX9_hasRoad_62
  by_cases g : x4 = 0
  · rcases h with h | h
    · exact absurd g h
    · exact eq_t g (eq_f h rfl)
  · exact eq_f g rfl
theorem xr35 {j : Nat} {k2 : Int32 → Int32 → Int32 → Mem → Option (Int32 × Mem)} {u0 : Int32} (hj : j < 10) : fX9_hasRoad_35 n0 q k2 x1 x2 (nI j) u0 M = fX9_hasRoad_62 n0 q k2 x1 x2 (nI j) u0 (bI (gA M (q + 6) j = x2 ∧ gA M (q + 7) j = x1)) M := by
  have o : ¬ oob (nI j) 10 := nI_in hj (by decide)
  have hcl : (nI j).toNatClampNeg = j := nI_clamp (by omega)
  unfold fX9_hasRoad_35 fX9_hasRoad_61
  simp only [hcl]
  by_cases h1 : gA M (q + 6) j = x2
  · by_cases h2 : gA M (q + 7) j = x1
    · rw [bI_t ⟨h1, h2⟩]
      exact eq_f o (eq_t h1 (eq_f o (eq_t h2 rfl)))
    · rw [bI_f (fun g => h2 g.2)]
      exact eq_f o (eq_t h1 (eq_f o (eq_f h2 rfl)))
  · rw [bI_f (fun g => h1 g.1)]
    exact eq_f o (eq_f h1 rfl)
end RD
theorem xroadL {n0 q nr a c : Nat} {M : Mem} (h10 : nr ≤ 10) (hr : gI M (128 * q + 8) = nI nr) : ∀ (w j : Nat), j ≤ nr → nr < w + j → (∀ k, k < j → ¬ Jn (gA M (q + 6)) (gA M (q + 7)) k a c) → (loopN (bX9_hasRoad_2 n0 q) (fun _ _ _ _ => none) w (nI a) (nI c) (nI j) M = some (1, M) ∧ ∃ k, k < nr ∧ Jn (gA M (q + 6)) (gA M (q + 7)) k a c) ∨ (loopN (bX9_hasRoad_2 n0 q) (fun _ _ _ _ => none) w (nI a) (nI c) (nI j) M = some (0, M) ∧ ∀ k, k < nr → ¬ Jn (gA M (q + 6)) (gA M (q + 7)) k a c) := by
  intro w
  induction w with
  | zero => intro j _ h; omega
  | succ w ih =>
    intro j hj hw hne
    rw [lpS, bX9_hasRoad_2]
    by_cases h : nr ≤ j
    · exact Or.inr ⟨eq_t (by rw [hr]; exact nI_le h (by omega)) rfl, fun k hk => hne k (by omega)⟩
    · have o : ¬ oob (nI j) 10 := nI_in (by omega) (by decide)
      have hcl : (nI j).toNatClampNeg = j := nI_clamp (by omega)
      have g1 : ¬ gI M (128 * q + 8) ≤ nI j := by rw [hr]; exact nI_ge (by omega) (by omega)
      simp only [hcl]
      by_cases e1 : gA M (q + 6) j = nI a ∧ gA M (q + 7) j = nI c
      · refine Or.inl ⟨eq_f g1 (eq_f o (eq_t e1.1 (eq_f o (eq_t e1.2 ?_)))), j, by omega, Or.inl e1⟩
        rw [xr35 (by omega)]
        exact xr62 (Or.inl i10)
      · have mid : ∀ r, fX9_hasRoad_35 n0 q (loopN (bX9_hasRoad_2 n0 q) (fun _ _ _ _ => none) w) (nI a) (nI c) (nI j) 0 M = r → (if gI M (128 * q + 8) ≤ nI j then some (0, M) else if oob (nI j) 10 then none else if gA M (q + 6) j = nI a then if oob (nI j) 10 then none else if gA M (q + 7) j = nI c then fX9_hasRoad_35 n0 q (loopN (bX9_hasRoad_2 n0 q) (fun _ _ _ _ => none) w) (nI a) (nI c) (nI j) 1 M else fX9_hasRoad_34 n0 q (loopN (bX9_hasRoad_2 n0 q) (fun _ _ _ _ => none) w) (nI a) (nI c) (nI j) M else fX9_hasRoad_34 n0 q (loopN (bX9_hasRoad_2 n0 q) (fun _ _ _ _ => none) w) (nI a) (nI c) (nI j) M) = r := by
          intro r hr'
          by_cases e2 : gA M (q + 6) j = nI a
          · exact eq_f g1 (eq_f o (eq_t e2 (eq_f o (eq_f (fun e3 => e1 ⟨e2, e3⟩) hr'))))
          · exact eq_f g1 (eq_f o (eq_f e2 hr'))
        by_cases e2 : gA M (q + 6) j = nI c ∧ gA M (q + 7) j = nI a
        · refine Or.inl ⟨mid _ ?_, j, by omega, Or.inr e2⟩
          rw [xr35 (by omega)]
          exact xr62 (Or.inr (bz e2))
        · have e3 : fX9_hasRoad_35 n0 q (loopN (bX9_hasRoad_2 n0 q) (fun _ _ _ _ => none) w) (nI a) (nI c) (nI j) 0 M = loopN (bX9_hasRoad_2 n0 q) (fun _ _ _ _ => none) w (nI a) (nI c) (nI (j + 1)) M := by
            rw [xr35 (by omega), bI_f e2]
            unfold fX9_hasRoad_62
            rw [nI_1]
            exact eq_t rfl (eq_t rfl rfl)
          rcases ih (j + 1) (by omega) (by omega) (fun k hk => by
            by_cases q : k = j
            · rw [q]; exact fun g => by
                rcases g with g | g
                · exact e1 g
                · exact e2 g
            · exact hne k (by omega)) with ⟨r1, r2⟩ | ⟨r1, r2⟩
          · exact Or.inl ⟨mid _ (e3.trans r1), r2⟩
          · exact Or.inr ⟨mid _ (e3.trans r1), r2⟩
def yRR (n0 : Nat) (x1 x2 : Int32) (M : Mem) : Option Mem :=
    (fX12_knownBut n0 (1 : Int32) x2 M).bind fun z89 =>
    (fX12_must_ n0 (495874044019 : Int64) z89.2).bind fun z97 =>
    (fX12_number n0 (1 : Int32) (30 : Int32) z97).bind fun z104 =>
    if (gI z104.2 8) ≤ 0 then
      (fX12_at n0 (gI z104.2 34) x1 z89.1 z104.2).bind fun z128 =>
      if oob z128.1 50 then none else
      bnd (sA z128.2 8 (Int32.toNatClampNeg z128.1) z104.1) fun M133 =>
      (fX12_at n0 (gI M133 34) z89.1 x1 M133).bind fun z145 =>
      if oob z145.1 50 then none else
      bnd (sA z145.2 8 (Int32.toNatClampNeg z145.1) z104.1) fun M150 =>
      if oob (gI M150 34) 2 then none else
      if oob (gI M150 34) 2 then none else
      some (sA M150 7 (Int32.toNatClampNeg (gI M150 34)) ((gA M150 7 (Int32.toNatClampNeg (gI M150 34))) + (1 : Int32)))
    else
      some z104.2
theorem n25 (b a c : Nat) : (25 : Int32) * nI b + (5 : Int32) * nI a + nI c = nI (25 * b + (5 * a + c)) := by
  rw [show 25 * b + (5 * a + c) = 25 * b + 5 * a + c by omega, ← nI_add, ← nI_add, ← nI_mul, ← nI_mul]
  rfl
theorem yat {n0 b a c : Nat} {M : Mem} : fX12_at n0 (nI b) (nI a) (nI c) M = some (nI (25 * b + (5 * a + c)), M) := by
  unfold fX12_at
  rw [n25]
theorem yRloop {n0 b a : Nat} {M : Mem} (hb : b ≤ 1) (ha : a < 5) (h34 : gI M 34 = nI b) : ∀ (w j m : Nat), j ≤ 5 → 5 < w + j → m < 32 → (∀ i, i < 5 → (Hs (nI m) i ↔ (i = a ∨ (i < j ∧ ¬ gA M 8 (25 * b + (5 * a + i)) ≤ 0)))) → ∃ m', m' < 32 ∧ (∀ i, i < 5 → (Hs (nI m') i ↔ (i = a ∨ ¬ gA M 8 (25 * b + (5 * a + i)) ≤ 0))) ∧ loopN (bX12_roading_47 n0) (fun _ _ _ _ => none) w (nI a) (nI m) (nI j) M = yRR n0 (nI a) (nI m') M := by
  intro w
  induction w with
  | zero => intro j m _ h; omega
  | succ w ih =>
    intro j m hj hw hm hH
    rw [lpS, bX12_roading_47]
    by_cases h : 5 ≤ j
    · refine ⟨m, hm, fun i hi => ?_, eq_t (nI_le (a := 5) h (by omega)) rfl⟩
      rw [hH i hi]
      constructor
      · rintro (q | q)
        · exact Or.inl q
        · exact Or.inr q.2
      · rintro (q | q)
        · exact Or.inl q
        · exact Or.inr ⟨by omega, q⟩
    · have e5 : fX12_at n0 (gI M 34) (nI a) (nI j) M = some (nI (25 * b + (5 * a + j)), M) := by rw [h34]; exact yat
      have o : ¬ oob (nI (25 * b + (5 * a + j))) 50 := nI_in (by omega) (by decide)
      have hci : (nI (25 * b + (5 * a + j))).toNatClampNeg = 25 * b + (5 * a + j) := nI_clamp (by omega)
      have hlt : ¬ (5 : Int32) ≤ nI j := nI_ge (b := 5) (by omega) (by decide)
      by_cases g : gA M 8 (25 * b + (5 * a + j)) ≤ 0
      · obtain ⟨m', g1, g2, g3⟩ := ih (j + 1) m (by omega) (by omega) hm (fun i hi => by
          rw [hH i hi]
          constructor
          · rintro (q | q)
            · exact Or.inl q
            · exact Or.inr ⟨by omega, q.2⟩
          · rintro (q | q)
            · exact Or.inl q
            · refine Or.inr ⟨?_, q.2⟩
              by_cases e : i = j
              · subst e; exact absurd g q.2
              · omega)
        refine ⟨m', g1, g2, eq_f hlt (eq_b e5 (eq_f o (eq_t (by show gA M 8 (nI (25 * b + (5 * a + j))).toNatClampNeg ≤ 0; rw [hci]; exact g) ?_)))⟩
        unfold fX12_roading_78
        rw [nI_1, Int32.or_zero]
        exact g3
      · have hb := or_bit m hm j (by omega)
        obtain ⟨m', g1, g2, g3⟩ := ih (j + 1) (m ||| 2 ^ j) (by omega) (by omega) hb.2.1 (fun i hi => by
          rw [Hs_or hm (by omega) hi, hH i hi]
          constructor
          · rintro ((q | q) | q)
            · exact Or.inl q
            · exact Or.inr ⟨by omega, q.2⟩
            · subst q; exact Or.inr ⟨by omega, g⟩
          · rintro (q | q)
            · exact Or.inl (Or.inl q)
            · by_cases e : i = j
              · exact Or.inr e
              · exact Or.inl (Or.inr ⟨by omega, q.2⟩))
        refine ⟨m', g1, g2, eq_f hlt (eq_b e5 (eq_f o (eq_f (by show ¬ gA M 8 (nI (25 * b + (5 * a + j))).toNatClampNeg ≤ 0; rw [hci]; exact g) ?_)))⟩
        unfold fX12_roading_78
        rw [nI_1, hb.1]
        exact g3
theorem one_bit : ∀ a, a < 5 → ((1 : Int32) <<< (nI a &&& 31)) = nI (2 ^ a) ∧ 2 ^ a < 32 ∧ ∀ i, i < 5 → ((((nI (2 ^ a) >>> (nI i &&& 31)) &&& (1 : Int32)) = (1 : Int32)) ↔ i = a) := by decide +kernel
theorem TownR.bumpR {q b nt nc nd nr C a c n : Nat} {MX MY : Mem} (h : TownR q b nt nc nd nr C MX MY) (hr : nr < 10) (ha : a < nc) (hc : c < nc) (hac : a ≠ c) (hn : 1 ≤ n ∧ n ≤ 30) (x1 : gA MX (q + 6) nr = nI a) (x2 : gA MX (q + 7) nr = nI c) (x3 : gA MX (q + 8) nr = nI n) : TownR q b nt nc nd (nr + 1) C (sI MX (128 * q + 8) (nI (nr + 1))) (sA (sA (sA MY 8 (25 * b + (5 * a + c)) (nI n)) 8 (25 * b + (5 * c + a)) (nI n)) 7 b (nI (nr + 1))) := by
  obtain ⟨⟨⟨a1, a2, a3⟩, ⟨a4, a5, a6⟩, ⟨a7, a8, a9⟩⟩, b1, b2, b3, ⟨c1, c2, c3⟩, ⟨p, p1, p2, p3⟩, d1, d2, d3⟩ := h
  have c5 := a6.1
  have yn : ∀ e, e ≠ 8 → e ≠ 7 → gA (sA (sA (sA MY 8 (25 * b + (5 * a + c)) (nI n)) 8 (25 * b + (5 * c + a)) (nI n)) 7 b (nI (nr + 1))) e = gA MY e := fun e h8 h7 => by rw [gA_sA_ne h7, gA_sA_ne h8, gA_sA_ne h8]
  refine ⟨⟨⟨?_, ?_, a3⟩, ⟨?_, ?_, a6⟩, ⟨?_, ?_, a9⟩⟩, ?_, ?_, ?_, ⟨gI_at, ?_, ⟨by omega, fun k hk => ?_, fun a' c' ha' hc' => ?_⟩⟩, ⟨p, p1, ?_, ?_⟩, ?_, ?_, d3⟩
  · rw [gI_ne (by omega)]; exact a1
  · rw [yn _ (by decide) (by decide)]; exact a2
  · rw [gI_ne (by omega)]; exact a4
  · rw [yn _ (by decide) (by decide)]; exact a5
  · rw [gI_ne (by omega)]; exact a7
  · rw [yn _ (by decide) (by decide)]; exact a8
  · intro i hi
    dsimp only
    rw [yn _ (by decide) (by decide), yn _ (by decide) (by decide)]
    exact b1 i hi
  · intro i hi
    dsimp only
    rw [yn _ (by decide) (by decide)]
    exact b2 i hi
  · intro i hi
    dsimp only
    rw [yn _ (by decide) (by decide), yn _ (by decide) (by decide)]
    exact b3 i hi
  · rw [gA_sA, if_pos rfl, if_pos rfl]
  · by_cases e : k = nr
    · subst e; exact ⟨a, c, n, ha, hc, hac, hn.1, hn.2, x1, x2, x3⟩
    · exact c3.2.1 k (by omega)
  · have y8 : gA (sA (sA (sA MY 8 (25 * b + (5 * a + c)) (nI n)) 8 (25 * b + (5 * c + a)) (nI n)) 7 b (nI (nr + 1))) 8 (25 * b + (5 * a' + c')) = if (a' = c ∧ c' = a) ∨ (a' = a ∧ c' = c) then nI n else gA MY 8 (25 * b + (5 * a' + c')) := by
      rw [gA_sA_ne (by decide), gA_sA, if_pos rfl, gA_sA, if_pos rfl]
      by_cases e1 : a' = c ∧ c' = a
      · rw [if_pos (by omega), if_pos (Or.inl e1)]
      · rw [if_neg (by omega)]
        by_cases e2 : a' = a ∧ c' = c
        · rw [if_pos (by omega), if_pos (Or.inr e2)]
        · rw [if_neg (by omega), if_neg (by omega)]
    dsimp only
    rw [y8]
    by_cases e : (a' = c ∧ c' = a) ∨ (a' = a ∧ c' = c)
    · rw [if_pos e]
      refine Or.inr ⟨nr, by omega, ?_, x3.symm⟩
      show (gA MX (q + 6) nr = _ ∧ gA MX (q + 7) nr = _) ∨ (gA MX (q + 6) nr = _ ∧ gA MX (q + 7) nr = _)
      rw [x1, x2]
      rcases e with ⟨rfl, rfl⟩ | ⟨rfl, rfl⟩
      · exact Or.inr ⟨rfl, rfl⟩
      · exact Or.inl ⟨rfl, rfl⟩
    · rw [if_neg e]
      rcases c3.2.2 a' c' ha' hc' with ⟨g1, g2⟩ | ⟨k, g1, g2, g3⟩
      · refine Or.inl ⟨g1, fun k hk g => ?_⟩
        by_cases ek : k = nr
        · subst ek
          have g' : (gA MX (q + 6) k = nI a' ∧ gA MX (q + 7) k = nI c') ∨ (gA MX (q + 6) k = nI c' ∧ gA MX (q + 7) k = nI a') := g
          rw [x1, x2, nI_eq (by omega) (by omega), nI_eq (by omega) (by omega), nI_eq (by omega) (by omega), nI_eq (by omega) (by omega)] at g'
          exact e (by omega)
        · exact g2 k (by omega) g
      · exact Or.inr ⟨k, by omega, g2, g3⟩
  · rw [gI_ne (by omega)]; exact p2
  · rw [yn _ (by decide) (by decide)]; exact p3
  · unfold FmR xlist ylist at d1 ⊢
    rw [gI_ne (by omega), yn _ (by decide) (by decide), yn _ (by decide) (by decide), yn _ (by decide) (by decide), yn _ (by decide) (by decide)]
    exact d1
  · unfold FmR xlist ylist at d2 ⊢
    rw [gI_ne (by omega), yn _ (by decide) (by decide), yn _ (by decide) (by decide), yn _ (by decide) (by decide), yn _ (by decide) (by decide)]
    exact d2
theorem xaddR {n0 q nr : Nat} {x1 x2 x3 : Int32} {M : Mem} (h : gI M (128 * q + 8) = nI nr) (ht : nr < 10) : fX9_addRoad n0 q x1 x2 x3 M = some (sI (sA (sA (sA M (q + 6) nr x1) (q + 7) nr x2) (q + 8) nr x3) (128 * q + 8) (nI (nr + 1))) := by
  have o : ¬ oob (gI M (128 * q + 8)) 10 := by rw [h]; exact nI_in ht (by decide)
  unfold fX9_addRoad
  refine eq_f (by rw [h]; exact nI_ge (b := 10) ht (by decide)) (eq_f o (eq_n (eq_f o (eq_n (eq_f o (eq_n ?_))))))
  simp only [gI_sA, h, nI_clamp (show nr < 2 ^ 31 by omega), nI_1]
theorem yRRF {n0 : Nat} {x1 x2 : Int32} {M : Mem} (h : ¬ gI M 8 ≤ 0) : yRR n0 x1 x2 M = some M := by
  unfold yRR
  exact eq_b (ykF h) (eq_b (ymustF h) (eq_b (ynumF h) (eq_f h rfl)))
theorem rod_eq {n0 : Nat} {u1 : Int32} {M : Mem} : fX12_roading_20 n0 u1 M = (fX12_counts n0 u1 M).bind fun z20 => if z20.1 = 0 then some z20.2 else (fX12_knownBut n0 (1 : Int32) (0 : Int32) z20.2).bind fun z30 => (fX12_must_ n0 (29807 : Int64) z30.2).bind fun z38 => loopN (bX12_roading_47 n0) (fun _ _ _ _ => none) n0 z30.1 ((1 : Int32) <<< (z30.1 &&& 31)) 0 z38 := rfl
theorem yRl {n0 b a : Nat} {M : Mem} (hn : 1601 ≤ n0) (hb : b ≤ 1) (ha : a < 5) (h34 : gI M 34 = nI b) : ∃ m', m' < 32 ∧ (∀ i, i < 5 → (Hs (nI m') i ↔ (i = a ∨ ¬ gA M 8 (25 * b + (5 * a + i)) ≤ 0))) ∧ loopN (bX12_roading_47 n0) (fun _ _ _ _ => none) n0 (nI a) ((1 : Int32) <<< (nI a &&& 31)) 0 M = yRR n0 (nI a) (nI m') M := by
  have h1 := one_bit a ha
  obtain ⟨m', g1, g2, g3⟩ := yRloop (n0 := n0) hb ha h34 n0 0 (2 ^ a) (by omega) (by omega) h1.2.1 (fun i hi => by
    constructor
    · intro g; exact Or.inl ((h1.2.2 i hi).mp g)
    · rintro (q | q)
      · exact (h1.2.2 i hi).mpr q
      · omega)
  refine ⟨m', g1, g2, ?_⟩
  rw [h1.1]
  exact g3
theorem roadS {n0 L s q b nt nc nd nr C : Nat} {MX MY : Mem} (hn : 1601 ≤ n0) (h : Rd L s q b nt nc nd nr C MX MY) (hk : gI MX 386 = 264) : StO L s q b MX MY (fX4_readStatement_171 n0 (bI (¬ nr = 10)) MX) (fX12_roading_20 n0 (bI (nr = 10)) MY) := by
  obtain ⟨hP, hA, hT, hC, hCs⟩ := h
  obtain ⟨f1, f2⟩ := fstP (n0 := n0) (full := nr = 10) hn hP (by rw [hk]; decide) (by rw [hk]; decide)
  rw [rod_eq]
  by_cases hf : nr = 10
  · obtain ⟨e1, e2⟩ := f1 hf
    refine Or.inr ⟨sI (sI MX 391 6) 392 (nI s), sI (sI MY 8 6) 9 (nI s), ?_, eq_b e2 (eq_t rfl rfl), Flt.mk (k := 6) (by decide) (by decide), FIf.q, FYf.b⟩
    unfold fX4_readStatement_171
    exact eq_b e1 (eq_t rfl rfl)
  obtain ⟨MX1, MY1, s1, ex1, ey1, hs1, hP1, fx1, fy1⟩ := f2 hf
  have q7 := hA.2.1
  have hb := hA.2.2.2
  have hA1 : At q b MX1 MY1 := hA.fr fx1.q fy1.b
  have hT1 : TownR q b nt nc nd nr C MX1 MY1 := hT.tok q7 fx1 fy1
  have c5 := hT1.1.2.1.2.2.1
  have hr10 : nr < 10 := by have := hT1.2.2.2.2.1.2.2.1; omega
  unfold fX4_readStatement_171 fX4_readRoad
  rcases corP (n0 := n0) 0 hn hP1 hA1 hT1.1 with ⟨MX2, MY2, ex2, ey2, hF, fx2, fy2⟩ | ⟨a, ha, ex2, -, hc4⟩
  · obtain ⟨m', -, -, el⟩ := yRl (n0 := n0) (a := 0) (M := MY2) hn hb (by decide) ((fy2.1 34 (by omega)).trans hA1.2.2.1)
    exact Or.inr ⟨MX2, MY2, eq_b ex1 (eq_f i10 (eq_b (eq_b ex2 (eq_t rfl rfl)) (eq_t rfl rfl))), eq_b ey1 (eq_f i10 (eq_b ey2 (eq_b (ymustF hF.pos) (el.trans (yRRF hF.pos))))), hF, fx1.q.tr fx2.q, fy1.b.tr fy2.b⟩
  have na1 : ¬ nI a = -1 := nI_m1 (by omega)
  obtain ⟨MX2, MY2, s2, ax2, ey2, hs2, hP2, fx2, fy2⟩ := hc4 (Hs0 (by omega))
  rcases skW (i := 5) (y := 29807) (kk := 265) hn (by decide) (by decide) (by decide) hP2 with ⟨MX3, MY3, s3, ex3, ey3, hs3, hP3, fx3, fy3⟩ | ⟨MX3, MY3, ex3, ey3, hF, fx3, fy3⟩
  rotate_left
  · obtain ⟨m', -, -, el⟩ := yRl (n0 := n0) (a := a) (M := MY3) hn hb (by omega) ((fy3.1 34 (by omega)).trans ((fy2.1 34 (by omega)).trans hA1.2.2.1))
    exact Or.inr ⟨MX3, MY3, eq_b ex1 (eq_f i10 (eq_b (eq_b ex2 (eq_f na1 (eq_b ax2 (eq_b ex3 (eq_t rfl rfl))))) (eq_t rfl rfl))), eq_b ey1 (eq_f i10 (eq_b ey2 (eq_b ey3 (el.trans (yRRF hF.pos))))), hF, (fx1.q.tr fx2.q).tr fx3.q, (fy1.b.tr fy2.b).tr fy3.b⟩
  have fx13 := fx2.tr fx3
  have fy13 := fy2.tr fy3
  have hA3 : At q b MX3 MY3 := hA1.fr fx13.q fy13.b
  have hT3 : TownR q b nt nc nd nr C MX3 MY3 := hT1.tok q7 fx13 fy13
  obtain ⟨m, hm, hH, el⟩ := yRl (n0 := n0) (a := a) (M := MY3) hn hb (by omega) hA3.2.2.1
  have yroad : ∀ r, yRR n0 (nI a) (nI m) MY3 = r → ((fX12_counts n0 (bI (nr = 10)) MY).bind fun z20 => if z20.1 = 0 then some z20.2 else (fX12_knownBut n0 (1 : Int32) (0 : Int32) z20.2).bind fun z30 => (fX12_must_ n0 (29807 : Int64) z30.2).bind fun z38 => loopN (bX12_roading_47 n0) (fun _ _ _ _ => none) n0 z30.1 ((1 : Int32) <<< (z30.1 &&& 31)) 0 z38) = r := fun r hr => eq_b ey1 (eq_f i10 (eq_b ey2 (eq_b ey3 (el.trans hr))))
  have yF : ∀ M, ¬ gI M 8 ≤ 0 → fX12_knownBut n0 1 (nI m) MY3 = some (0, M) → yRR n0 (nI a) (nI m) MY3 = some M := fun M h8 e => by
    unfold yRR
    exact eq_b e (eq_b (ymustF h8) (eq_b (ynumF h8) (eq_f h8 rfl)))
  rcases corP (n0 := n0) (nI m) hn hP3 hA3 hT3.1 with ⟨MX4, MY4, ex4, ey4, hF, fx4, fy4⟩ | ⟨c, hc, ex4, hc3, hc4⟩
  · exact Or.inr ⟨MX4, MY4, eq_b ex1 (eq_f i10 (eq_b (eq_b ex2 (eq_f na1 (eq_b ax2 (eq_b ex3 (eq_f i10 (eq_b ex4 (eq_t rfl rfl))))))) (eq_t rfl rfl))), yroad _ (yF MY4 hF.pos ey4), hF, (fx1.q.tr fx13.q).tr fx4.q, (fy1.b.tr fy13.b).tr fy4.b⟩
  have nc1 : ¬ nI c = -1 := nI_m1 (by omega)
  obtain ⟨r1, r2, rD⟩ := hT3.2.2.2.2.1
  -- is the road there already, or the corner the same
  have xF : ∀ Z, fX4_readRoad_63 n0 MX3 = Z → Z = some (0, sI (sI MX3 391 3) 392 (nI s3)) := fun Z hZ => by
    rw [← hZ]
    unfold fX4_readRoad_63
    rw [hP3.st]
    exact eq_b xfail (eq_t (Or.inl rfl) rfl)
  have r63 := xF _ rfl
  have hbad : ∀ (hx : (if nI c = nI a then fX4_readRoad_63 n0 MX3 else (fX9_hasRoad n0 (gR MX3 130) (nI a) (nI c) MX3).bind fun z57 => if z57.1 = 0 then (fX8_advance n0 z57.2).bind fun z83 => (fX8_skip n0 (266 : Int32) z83).bind fun z93 => if z93.1 = 0 then fX4_readRoad_110 n0 (nI a) (nI c) (-1 : Int32) z93.2 else (fX4_number n0 (1 : Int32) (30 : Int32) z93.2).bind fun z103 => fX4_readRoad_110 n0 (nI a) (nI c) z103.1 z103.2 else fX4_readRoad_63 n0 z57.2) = some (0, sI (sI MX3 391 3) 392 (nI s3))), Hs (nI m) c → StO L s q b MX MY ((fX4_skipFirst n0 (bI (¬ nr = 10)) MX).bind fun z171 => if z171.1 = 0 then some ((0 : Int32), z171.2) else ((fX4_cornerHere n0 z171.2).bind fun z1 => if z1.1 = (-1 : Int32) then some ((0 : Int32), z1.2) else (fX8_advance n0 z1.2).bind fun z16 => (fX8_skip n0 (265 : Int32) z16).bind fun z26 => if z26.1 = 0 then some ((0 : Int32), z26.2) else (fX4_cornerHere n0 z26.2).bind fun z35 => if z35.1 = (-1 : Int32) then some ((0 : Int32), z35.2) else if z35.1 = z1.1 then fX4_readRoad_63 n0 z35.2 else (fX9_hasRoad n0 (gR z35.2 130) z1.1 z35.1 z35.2).bind fun z57 => if z57.1 = 0 then (fX8_advance n0 z57.2).bind fun z83 => (fX8_skip n0 (266 : Int32) z83).bind fun z93 => if z93.1 = 0 then fX4_readRoad_110 n0 z1.1 z35.1 (-1 : Int32) z93.2 else (fX4_number n0 (1 : Int32) (30 : Int32) z93.2).bind fun z103 => fX4_readRoad_110 n0 z1.1 z35.1 z103.1 z103.2 else fX4_readRoad_63 n0 z57.2).bind fun z178 => if z178.1 = 0 then some ((0 : Int32), z178.2) else some ((1 : Int32), z178.2)) ((fX12_counts n0 (bI (nr = 10)) MY).bind fun z20 => if z20.1 = 0 then some z20.2 else (fX12_knownBut n0 (1 : Int32) (0 : Int32) z20.2).bind fun z30 => (fX12_must_ n0 (29807 : Int64) z30.2).bind fun z38 => loopN (bX12_roading_47 n0) (fun _ _ _ _ => none) n0 z30.1 ((1 : Int32) <<< (z30.1 &&& 31)) 0 z38) := by
    intro hx hh
    exact Or.inr ⟨sI (sI MX3 391 3) 392 (nI s3), sI (sI MY3 8 3) 9 (nI s3), eq_b ex1 (eq_f i10 (eq_b (eq_b ex2 (eq_f na1 (eq_b ax2 (eq_b ex3 (eq_f i10 (eq_b ex4 (eq_f nc1 hx))))))) (eq_t rfl rfl))), yroad _ (yF _ (n8f (k := 3) (by decide) (by decide)) (hc3 hh)), Flt.mk (k := 3) (by decide) (by decide), (fx1.q.tr fx13.q).tr FIf.q, (fy1.b.tr fy13.b).tr FYf.b⟩
  by_cases hac : c = a
  · exact hbad (eq_t (by rw [hac]) r63) ((hH c (by omega)).mpr (Or.inl hac))
  have nac : ¬ nI c = nI a := fun g => hac ((nI_eq (by omega) (by omega)).mp g)
  have hR := xroadL (n0 := n0) (q := q) (nr := nr) (a := a) (c := c) (M := MX3) rD.1 r1 n0 0 (by omega) (by omega) (fun k hk => by omega)
  rcases hR with ⟨e1, k, hk1, hk2⟩ | ⟨e1, hno⟩
  · have e1' : fX9_hasRoad n0 (gR MX3 130) (nI a) (nI c) MX3 = some (1, MX3) := by rw [hA3.1]; exact e1
    refine hbad (eq_f nac (eq_b e1' (eq_f i10 r63))) ((hH c (by omega)).mpr (Or.inr ?_))
    rcases rD.2.2 a c (by omega) (by omega) with ⟨_, g2⟩ | ⟨k', g1, g2, g3⟩
    · exact absurd hk2 (g2 k hk1)
    · obtain ⟨_, _, v, _, _, _, v1, v30, _, _, ev⟩ := rD.2.1 k' g1
      dsimp only at g3
      rw [g3, ev]
      exact nI_nle v1 (by omega)
  have e1' : fX9_hasRoad n0 (gR MX3 130) (nI a) (nI c) MX3 = some (0, MX3) := by rw [hA3.1]; exact e1
  have hsy : gA MY3 8 (25 * b + (5 * a + c)) = 0 := by
    rcases rD.2.2 a c (by omega) (by omega) with ⟨g1, _⟩ | ⟨k', g1, g2, _⟩
    · exact g1
    · exact absurd g2 (hno k' g1)
  obtain ⟨MX4, MY4, s4, ax4, ey4, hs4, hP4, fx4, fy4⟩ := hc4 (fun g => by
    rcases (hH c (by omega)).mp g with g | g
    · exact hac g
    · exact g (by rw [hsy]; exact i00))
  rcases skW (i := 6) (y := 495874044019) (kk := 266) hn (by decide) (by decide) (by decide) hP4 with ⟨MX5, MY5, s5, ex5, ey5, hs5, hP5, fx5, fy5⟩ | ⟨MX5, MY5, ex5, ey5, hF, fx5, fy5⟩
  rotate_left
  · refine Or.inr ⟨MX5, MY5, eq_b ex1 (eq_f i10 (eq_b (eq_b ex2 (eq_f na1 (eq_b ax2 (eq_b ex3 (eq_f i10 (eq_b ex4 (eq_f nc1 (eq_f nac (eq_b e1' (eq_t rfl (eq_b ax4 (eq_b ex5 (eq_t rfl (by unfold fX4_readRoad_110; exact eq_t rfl rfl)))))))))))))) (eq_t rfl rfl))), yroad _ ?_, hF, ((fx1.q.tr fx13.q).tr fx4.q).tr fx5.q, ((fy1.b.tr fy13.b).tr fy4.b).tr fy5.b⟩
    unfold yRR
    exact eq_b ey4 (eq_b ey5 (eq_b (ynumF hF.pos) (eq_f hF.pos rfl)))
  rcases numP (lo := 1) (hi := 30) hn hP5 with ⟨v, MX6, MY6, s6, hv, lo3, hi3, ex6, ey6, hs6, hP6, fx6, fy6⟩ | ⟨MX6, MY6, u, ex6, ey6, hF, fx6, fy6⟩
  rotate_left
  · refine Or.inr ⟨MX6, MY6, eq_b ex1 (eq_f i10 (eq_b (eq_b ex2 (eq_f na1 (eq_b ax2 (eq_b ex3 (eq_f i10 (eq_b ex4 (eq_f nc1 (eq_f nac (eq_b e1' (eq_t rfl (eq_b ax4 (eq_b ex5 (eq_f i10 (eq_b ex6 (by unfold fX4_readRoad_110; exact eq_t rfl rfl))))))))))))))) (eq_t rfl rfl))), yroad _ ?_, hF, (((fx1.q.tr fx13.q).tr fx4.q).tr fx5.q).tr fx6.q, (((fy1.b.tr fy13.b).tr fy4.b).tr fy5.b).tr fy6.b⟩
    unfold yRR
    exact eq_b ey4 (eq_b ey5 (eq_b ey6 (eq_f hF.pos rfl)))
  -- the statement is read
  have nv3 : ¬ nI v = -1 := nI_m1 (by omega)
  have fx36 : FI 386 392 MX3 MX6 := (fx4.tr fx5).tr fx6
  have fy36 : FrY MY3 MY6 := (fy4.tr fy5).tr fy6
  have hT6 : TownR q b nt nc nd nr C MX6 MY6 := hT3.tok q7 fx36 fy36
  have x130 : gR MX6 130 = q := by rw [fx36.R]; exact hA3.1
  have y34 : gI MY6 34 = nI b := (fy36.1 34 (by omega)).trans hA3.2.2.1
  have hT7 : TownR q b nt nc nd nr C (sA (sA (sA MX6 (q + 6) nr (nI a)) (q + 7) nr (nI c)) (q + 8) nr (nI v)) MY6 := by
    refine hT6.fine (fun j h1 h2 => rfl) (fun e i h1 h2 h3 => ?_) (fun _ _ _ _ _ => rfl) (fun _ _ _ _ => rfl)
    unfold frX at h3
    rw [gA_sA]
    by_cases e3 : e = q + 8
    · rw [if_pos e3, if_neg (by omega), gA_sA_ne (by omega), gA_sA_ne (by omega), e3]
    · rw [if_neg e3, gA_sA]
      by_cases e2 : e = q + 7
      · rw [if_pos e2, if_neg (by omega), gA_sA_ne (by omega), e2]
      · rw [if_neg e2, gA_sA]
        by_cases e1 : e = q + 6
        · rw [if_pos e1, if_neg (by omega), e1]
        · rw [if_neg e1]
  have hT8 := hT7.bumpR hr10 ha hc (fun g => hac g.symm) ⟨(nI_leI (a := 1) (b := v) (by decide) (by omega)).mp lo3, (nI_leI (a := v) (b := 30) (by omega) (by decide)).mp hi3⟩ (by rw [gA_sA_ne (by omega), gA_sA_ne (by omega), gA_sA, if_pos rfl, if_pos rfl]) (by rw [gA_sA_ne (by omega), gA_sA, if_pos rfl, if_pos rfl]) (by rw [gA_sA, if_pos rfl, if_pos rfl])
  have fyE : FY2 b MY (sA (sA (sA MY6 8 (25 * b + (5 * a + c)) (nI v)) 8 (25 * b + (5 * c + a)) (nI v)) 7 b (nI (nr + 1))) := ((((fy1.b.tr fy13.b).tr fy36.b).a (by unfold regA; omega)).a (by unfold regA; omega)).a (by unfold regA; omega)
  have fxE : FX2 q MX (sI (sA (sA (sA MX6 (q + 6) nr (nI a)) (q + 7) nr (nI c)) (q + 8) nr (nI v)) (128 * q + 8) (nI (nr + 1))) := (((((fx1.q.tr fx13.q).tr fx36.q).a (by omega)).a (by omega)).a (by omega)).i (by unfold rgX; omega)
  have hd : fX4_readRoad_110 n0 (nI a) (nI c) (nI v) MX6 = some (1, sI (sA (sA (sA MX6 (q + 6) nr (nI a)) (q + 7) nr (nI c)) (q + 8) nr (nI v)) (128 * q + 8) (nI (nr + 1))) := by
    unfold fX4_readRoad_110
    refine eq_f nv3 (eq_b ?_ rfl)
    show fX9_addRoad n0 (gR MX6 130) _ _ _ MX6 = _
    rw [x130]
    exact xaddR hT6.2.2.2.2.1.1 hr10
  refine Or.inl ⟨_, _, s6, nt, nc, nd, nr + 1, C, eq_b ex1 (eq_f i10 (eq_b (eq_b ex2 (eq_f na1 (eq_b ax2 (eq_b ex3 (eq_f i10 (eq_b ex4 (eq_f nc1 (eq_f nac (eq_b e1' (eq_t rfl (eq_b ax4 (eq_b ex5 (eq_f i10 (eq_b ex6 hd)))))))))))))) (eq_f i10 rfl))), yroad _ ?_, by omega, ⟨?_, hA.fr fxE fyE, hT8, ?_, by omega⟩, fxE, fyE⟩
  · unfold yRR
    have a1 : fX12_at n0 (gI MY6 34) (nI a) (nI c) MY6 = some (nI (25 * b + (5 * a + c)), MY6) := by rw [y34]; exact yat
    have a2 : fX12_at n0 (gI (sA MY6 8 (25 * b + (5 * a + c)) (nI v)) 34) (nI c) (nI a) (sA MY6 8 (25 * b + (5 * a + c)) (nI v)) = some (nI (25 * b + (5 * c + a)), sA MY6 8 (25 * b + (5 * a + c)) (nI v)) := by
      show fX12_at n0 (gI MY6 34) _ _ _ = _
      rw [y34]; exact yat
    have k1 : (nI (25 * b + (5 * a + c))).toNatClampNeg = 25 * b + (5 * a + c) := nI_clamp (by omega)
    have k2 : (nI (25 * b + (5 * c + a))).toNatClampNeg = 25 * b + (5 * c + a) := nI_clamp (by omega)
    have o34 : ¬ oob (gI MY6 34) 2 := by rw [y34]; exact nI_in (by omega) (by decide)
    refine eq_b ey4 (eq_b ey5 (eq_b ey6 (eq_t (by show gI MY6 8 ≤ 0; rw [hP6.f8]; exact i00) (eq_b a1 (eq_f (nI_in (by omega) (by decide)) (eq_n ?_))))))
    show (fX12_at n0 (gI (sA MY6 8 (nI (25 * b + (5 * a + c))).toNatClampNeg (nI v)) 34) (nI c) (nI a) (sA MY6 8 (nI (25 * b + (5 * a + c))).toNatClampNeg (nI v))).bind _ = _
    rw [k1]
    refine eq_b a2 (eq_f (nI_in (by omega) (by decide)) (eq_n (eq_f o34 (eq_f o34 ?_))))
    show some (sA (sA (sA MY6 8 (25 * b + (5 * a + c)) (nI v)) 8 (nI (25 * b + (5 * c + a))).toNatClampNeg (nI v)) 7 (gI MY6 34).toNatClampNeg (gA (sA (sA MY6 8 (25 * b + (5 * a + c)) (nI v)) 8 (nI (25 * b + (5 * c + a))).toNatClampNeg (nI v)) 7 (gI MY6 34).toNatClampNeg + 1)) = _
    rw [k2, y34, nI_clamp (by omega), gA_sA_ne (show (7 : Nat) ≠ 8 by decide), gA_sA_ne (show (7 : Nat) ≠ 8 by decide), hT6.2.2.2.2.1.2.1, nI_1]
  · refine hP6.cong (fun j h1 h2 => ?_) ?_ ?_ ?_ (fun j _ => rfl) rfl ?_
    · rw [gI_ne (by omega)]; rfl
    · rw [gI_ne (by omega)]; rfl
    · show gA (sA (sA (sA MX6 (q + 6) nr (nI a)) (q + 7) nr (nI c)) (q + 8) nr (nI v)) 4 = _
      rw [gA_sA_ne (by omega), gA_sA_ne (by omega), gA_sA_ne (by omega)]
    · show gA (sA (sA (sA MX6 (q + 6) nr (nI a)) (q + 7) nr (nI c)) (q + 8) nr (nI v)) 6 = _
      rw [gA_sA_ne (by omega), gA_sA_ne (by omega), gA_sA_ne (by omega)]
    · rw [gA_sA_ne (by decide), gA_sA_ne (by decide), gA_sA_ne (by decide)]
  · show gI MY6 33 = _
    rw [fy36.1 33 (by omega), fy13.1 33 (by omega), fy1.1 33 (by omega)]
    exact hC
