/-! STATEMENTS: palm -/
theorem or_bit : ∀ m, m < 32 → ∀ j, j < 5 → (nI m ||| ((1 : Int32) <<< (nI j &&& 31))) = nI (m ||| 2 ^ j) ∧ (m ||| 2 ^ j) < 32 ∧ ∀ i, i < 5 → ((((nI (m ||| 2 ^ j) >>> (nI i &&& 31)) &&& (1 : Int32)) = (1 : Int32)) ↔ ((((nI m >>> (nI i &&& 31)) &&& (1 : Int32)) = (1 : Int32)) ∨ i = j)) := by decide +kernel
theorem Hs_or {m i j : Nat} (hm : m < 32) (hj : j < 5) (hi : i < 5) : Hs (nI (m ||| 2 ^ j)) i ↔ (Hs (nI m) i ∨ i = j) := (or_bit m hm j hj).2.2 i hi
def yPR (n0 : Nat) (x1 : Int32) (M : Mem) : Option Mem :=
    (fX12_knownBut n0 (1 : Int32) x1 M).bind fun z62 =>
    (fX12_must_ n0 (6840691 : Int64) z62.2).bind fun z70 =>
    (fX12_knownBut n0 (0 : Int32) (0 : Int32) z70).bind fun z76 =>
    if (gI z76.2 8) = 0 then
      if oob (((5 : Int32) * (gI z76.2 34)) + z62.1) 10 then none else
      some (sA z76.2 6 (Int32.toNatClampNeg (((5 : Int32) * (gI z76.2 34)) + z62.1)) z76.1)
    else
      some z76.2
theorem yPloop {n0 b nc : Nat} {M : Mem} (hb : b ≤ 1) (hc : nc ≤ 5) (h34 : gI M 34 = nI b) (h5 : gA M 5 b = nI nc) : ∀ (w j m : Nat), j ≤ nc → nc < w + j → m < 32 → (∀ i, i < 5 → (Hs (nI m) i ↔ (i < j ∧ ¬ gA M 6 (5 * b + i) = -1))) → ∃ m', m' < 32 ∧ (∀ i, i < 5 → (Hs (nI m') i ↔ (i < nc ∧ ¬ gA M 6 (5 * b + i) = -1))) ∧ loopN (bX12_palming_13 n0) (fun _ _ _ => none) w (nI m) (nI j) M = yPR n0 (nI m') M := by
  intro w
  induction w with
  | zero => intro j m _ h; omega
  | succ w ih =>
    intro j m hj hw hm hH
    have o2 : ¬ oob (gI M 34) 2 := by rw [h34]; exact nI_in (by omega) (by decide)
    have hcb : (gI M 34).toNatClampNeg = b := by rw [h34, nI_clamp (by omega)]
    rw [lpS, bX12_palming_13]
    by_cases h : nc ≤ j
    · obtain rfl : j = nc := by omega
      refine ⟨m, hm, hH, eq_f o2 (eq_t ?_ rfl)⟩
      rw [hcb, h5]
      exact nI_le (Nat.le_refl _) (by omega)
    · have e5 : (5 : Int32) * gI M 34 + nI j = nI (5 * b + j) := by rw [h34, n5]
      have o10 : ¬ oob ((5 : Int32) * gI M 34 + nI j) 10 := by rw [e5]; exact nI_in (by omega) (by decide)
      have hci : ((5 : Int32) * gI M 34 + nI j).toNatClampNeg = 5 * b + j := by rw [e5, nI_clamp (by omega)]
      have hlt : ¬ gA M 5 (gI M 34).toNatClampNeg ≤ nI j := by rw [hcb, h5]; exact nI_ge (by omega) (by omega)
      by_cases g : gA M 6 (5 * b + j) = -1
      · obtain ⟨m', g1, g2, g3⟩ := ih (j + 1) m (by omega) (by omega) hm (fun i hi => by
          rw [hH i hi]
          constructor
          · intro q; exact ⟨by omega, q.2⟩
          · intro q
            refine ⟨?_, q.2⟩
            by_cases e : i = j
            · subst e; exact absurd g q.2
            · omega)
        refine ⟨m', g1, g2, eq_f o2 (eq_f hlt (eq_f o10 (eq_t (by rw [hci]; exact g) ?_)))⟩
        unfold fX12_palming_51
        rw [nI_1, Int32.or_zero]
        exact g3
      · have hb := or_bit m hm j (by omega)
        obtain ⟨m', g1, g2, g3⟩ := ih (j + 1) (m ||| 2 ^ j) (by omega) (by omega) hb.2.1 (fun i hi => by
          rw [Hs_or hm (by omega) hi, hH i hi]
          constructor
          · rintro (q | q)
            · exact ⟨by omega, q.2⟩
            · subst q; exact ⟨by omega, g⟩
          · intro q
            by_cases e : i = j
            · exact Or.inr e
            · exact Or.inl ⟨by omega, q.2⟩)
        refine ⟨m', g1, g2, eq_f o2 (eq_f hlt (eq_f o10 (eq_f (by rw [hci]; exact g) ?_)))⟩
        unfold fX12_palming_51
        rw [nI_1, hb.1]
        exact g3
theorem TownR.setH {q b nt nc nd nr C c t : Nat} {MX MY : Mem} (h : TownR q b nt nc nd nr C MX MY) (hc : c < nc) (ht : t < nt) : TownR q b nt nc nd nr C (sA MX (q + 5) c (nI t)) (sA MY 6 (5 * b + c) (nI t)) := by
  obtain ⟨⟨⟨a1, a2, a3⟩, ⟨a4, a5, a6⟩, ⟨a7, a8, a9⟩⟩, b1, b2, b3, ⟨c1, c2, c3⟩, ⟨p, p1, p2, p3⟩, d1, d2, d3⟩ := h
  have xn : ∀ a, a ≠ q + 5 → gA (sA MX (q + 5) c (nI t)) a = gA MX a := fun a ha => gA_sA_ne ha
  refine ⟨⟨⟨a1, a2, ?_⟩, ⟨a4, a5, ?_⟩, ⟨a7, a8, ?_⟩⟩, ?_, fun i hi => ?_, ?_, ⟨c1, c2, ?_⟩, ⟨p, p1, p2, p3⟩, ?_, ?_, d3⟩
  · rw [xn _ (by omega)]; exact a3
  · rw [xn _ (by omega)]; exact a6
  · rw [xn _ (by omega)]; exact a9
  · rw [xn _ (by omega), xn _ (by omega)]; exact b1
  · dsimp only
    rw [gA_sA, if_pos rfl, gA_sA, if_pos rfl]
    by_cases e : i = c
    · rw [if_pos e, if_pos (by omega)]
      exact ⟨rfl, Or.inr ⟨t, ht, rfl⟩⟩
    · rw [if_neg e, if_neg (by omega)]
      exact b2 i hi
  · rw [xn _ (by omega), xn _ (by omega)]; exact b3
  · rw [xn _ (by omega), xn _ (by omega), xn _ (by omega)]; exact c3
  · unfold FmR xlist at d1 ⊢
    rw [xn _ (by omega)]
    exact d1
  · unfold FmR xlist at d2 ⊢
    rw [xn _ (by omega)]
    exact d2
def xPalm (n0 : Nat) (M : Mem) : Option (Int32 × Mem) :=
    (fX4_skipFirst n0 (1 : Int32) M).bind fun z192 =>
    if z192.1 = 0 then
      some ((0 : Int32), z192.2)
    else
      (fX4_readPalm n0 z192.2).bind fun z199 =>
      if z199.1 = 0 then
        some ((0 : Int32), z199.2)
      else
        some ((1 : Int32), z199.2)
theorem palmS {n0 L s q b nt nc nd nr C : Nat} {MX MY : Mem} (hn : 1601 ≤ n0) (h : Rd L s q b nt nc nd nr C MX MY) (hk : gI MX 386 = 267) : StO L s q b MX MY (xPalm n0 MX) (fX12_palming n0 MY) := by
  obtain ⟨hP, hA, hT, hC, hCs⟩ := h
  obtain ⟨-, f2⟩ := fstP (n0 := n0) (full := False) hn hP (by rw [hk]; decide) (by rw [hk]; decide)
  obtain ⟨MX1, MY1, s1, ex1, ey1, hs1, hP1, fx1, fy1⟩ := f2 id
  rw [bI_t (show ¬ False from id)] at ex1
  rw [bI_f (show ¬ False from id)] at ey1
  have q7 := hA.2.1
  have hb := hA.2.2.2
  have hA1 : At q b MX1 MY1 := hA.fr fx1.q fy1.b
  have hT1 : TownR q b nt nc nd nr C MX1 MY1 := hT.tok q7 fx1 fy1
  have c5 := hT1.1.2.1.2.2.1
  have t6 := hT1.1.1.2.2.1
  obtain ⟨m, hm, hH, eloop⟩ := yPloop (n0 := n0) hb c5 hA1.2.2.1 hT1.1.2.1.2.1 n0 0 0 (by omega) (by omega) (by omega) (fun i hi => ⟨fun g => absurd g (Hs0 (by omega)), fun g => by omega⟩)
  have ypal : ∀ r, yPR n0 (nI m) MY1 = r → fX12_palming n0 MY = r := fun r hr => by
    unfold fX12_palming fX12_palming_13
    exact eq_b ey1 (eq_f i10 (eloop.trans hr))
  unfold xPalm fX4_readPalm
  have yF : ∀ M, ¬ gI M 8 ≤ 0 → fX12_knownBut n0 1 (nI m) MY1 = some (0, M) → yPR n0 (nI m) MY1 = some M := fun M h8 e => by
    unfold yPR
    exact eq_b e (eq_b (ymustF h8) (eq_b (ykF h8) (eq_f (pos_ne h8) rfl)))
  rcases corP (n0 := n0) (nI m) hn hP1 hA1 hT1.1 with ⟨MX2, MY2, ex2, ey2, hF, fx2, fy2⟩ | ⟨c, hc, ex2, hc3, hc4⟩
  · exact Or.inr ⟨MX2, MY2, eq_b ex1 (eq_f i10 (eq_b (eq_b ex2 (eq_t rfl rfl)) (eq_t rfl rfl))), ypal _ (yF MY2 hF.pos ey2), hF, fx1.q.tr fx2.q, fy1.b.tr fy2.b⟩
  have nc1 : ¬ nI c = -1 := nI_m1 (by omega)
  have oc : ¬ oob (nI c) 5 := nI_in (by omega) (by decide)
  have hcl : (nI c).toNatClampNeg = c := nI_clamp (by omega)
  have xp : gA MX1 (gR MX1 130 + 5) (nI c).toNatClampNeg = gA MY1 6 (5 * b + c) := by
    rw [hA1.1, hcl]
    exact (hT1.2.2.1 c hc).1
  by_cases hp : gA MY1 6 (5 * b + c) = -1
  rotate_left
  · have e3 := hc3 ((hH c (by omega)).mpr ⟨hc, hp⟩)
    refine Or.inr ⟨sI (sI MX1 391 3) 392 (nI s1), sI (sI MY1 8 3) 9 (nI s1), ?_, ypal _ (yF _ (n8f (k := 3) (by decide) (by decide)) e3), Flt.mk (k := 3) (by decide) (by decide), fx1.q.tr FIf.q, fy1.b.tr FYf.b⟩
    refine eq_b ex1 (eq_f i10 (eq_b (eq_b ex2 (eq_f nc1 (eq_f oc (eq_f ?_ (eq_b xfail (eq_t (Or.inl rfl) rfl)))))) (eq_t rfl ?_)))
    · show ¬ gA MX1 (gR MX1 130 + 5) (nI c).toNatClampNeg = -1
      rw [xp]; exact hp
    · show some ((0 : Int32), sI (sI MX1 391 3) 392 (gI MX1 387)) = _
      rw [hP1.st]
  have xp1 : gA MX1 (gR MX1 130 + 5) (nI c).toNatClampNeg = -1 := xp.trans hp
  obtain ⟨MX2, MY2, s2, ax2, ey2, hs2, hP2, fx2, fy2⟩ := hc4 (fun g => ((hH c (by omega)).mp g).2 hp)
  rcases skW (i := 8) (y := 6840691) (kk := 268) hn (by decide) (by decide) (by decide) hP2 with ⟨MX3, MY3, s3, ex3, ey3, hs3, hP3, fx3, fy3⟩ | ⟨MX3, MY3, ex3, ey3, hF, fx3, fy3⟩
  rotate_left
  · refine Or.inr ⟨MX3, MY3, eq_b ex1 (eq_f i10 (eq_b (eq_b ex2 (eq_f nc1 (eq_f oc (eq_t xp1 (eq_b ax2 (eq_b ex3 (eq_t rfl rfl))))))) (eq_t rfl rfl))), ypal _ ?_, hF, (fx1.q.tr fx2.q).tr fx3.q, (fy1.b.tr fy2.b).tr fy3.b⟩
    unfold yPR
    exact eq_b ey2 (eq_b ey3 (eq_b (ykF hF.pos) (eq_f (pos_ne hF.pos) rfl)))
  have fx13 := fx2.tr fx3
  have fy13 := fy2.tr fy3
  have hA3 : At q b MX3 MY3 := hA1.fr fx13.q fy13.b
  have hT3 : TownR q b nt nc nd nr C MX3 MY3 := hT1.tok q7 fx13 fy13
  rcases thgP (n0 := n0) hn hP3 hA3 hT3.1 with ⟨k1, e1⟩ | ⟨k1, e0, e1⟩ | ⟨k1, t, ht, e0, MX4, MY4, s4, ax4, ey4, hs4, hP4, fx4, fy4⟩
  · refine Or.inr ⟨sI (sI MX3 391 1) 392 (gI MX3 388), sI (sI MY3 8 1) 9 (gI MX3 388), eq_b ex1 (eq_f i10 (eq_b (eq_b ex2 (eq_f nc1 (eq_f oc (eq_t xp1 (eq_b ax2 (eq_b ex3 (eq_f i10 (eq_f k1 (eq_b xfailH (eq_t (Or.inl rfl) rfl)))))))))) (eq_t rfl rfl))), ypal _ ?_, Flt.mk (k := 1) (by decide) (by decide), (fx1.q.tr fx13.q).tr FIf.q, (fy1.b.tr fy13.b).tr FYf.b⟩
    unfold yPR
    exact eq_b ey2 (eq_b ey3 (eq_b e1 (eq_f (pos_ne (n8f (k := 1) (by decide) (by decide))) rfl)))
  · refine Or.inr ⟨sI (sI MX3 391 3) 392 (nI s3), sI (sI MY3 8 3) 9 (nI s3), eq_b ex1 (eq_f i10 (eq_b (eq_b ex2 (eq_f nc1 (eq_f oc (eq_t xp1 (eq_b ax2 (eq_b ex3 (eq_f i10 (eq_t k1 (eq_b e0 (eq_t rfl (eq_b xfail (eq_t (Or.inl rfl) rfl)))))))))))) (eq_t rfl ?_))), ypal _ ?_, Flt.mk (k := 3) (by decide) (by decide), (fx1.q.tr fx13.q).tr FIf.q, (fy1.b.tr fy13.b).tr FYf.b⟩
    · show some ((0 : Int32), sI (sI MX3 391 3) 392 (gI MX3 387)) = _
      rw [hP3.st]
    · unfold yPR
      exact eq_b ey2 (eq_b ey3 (eq_b e1 (eq_f (pos_ne (n8f (k := 3) (by decide) (by decide))) rfl)))
  · have nt1 : ¬ nI t = -1 := nI_m1 (by omega)
    have hT4 : TownR q b nt nc nd nr C MX4 MY4 := hT3.tok q7 fx4 fy4
    have x130 : gR MX4 130 = q := by rw [fx4.R]; exact hA3.1
    have y34 : gI MY4 34 = nI b := (fy4.1 34 (by omega)).trans hA3.2.2.1
    have fyE : FY2 b MY (sA MY4 6 (5 * b + c) (nI t)) := ((fy1.b.tr fy13.b).tr fy4.b).a (by unfold regA; omega)
    have fxE : FX2 q MX (sA MX4 (q + 5) c (nI t)) := ((fx1.q.tr fx13.q).tr fx4.q).a (by omega)
    refine Or.inl ⟨_, _, s4, nt, nc, nd, nr, C, ?_, ypal _ ?_, by omega, ⟨?_, hA.fr fxE fyE, hT4.setH hc ht, ?_, by omega⟩, fxE, fyE⟩
    · refine eq_b ex1 (eq_f i10 (eq_b (eq_b ex2 (eq_f nc1 (eq_f oc (eq_t xp1 (eq_b ax2 (eq_b ex3 (eq_f i10 (eq_t k1 (eq_b e0 (eq_f nt1 (eq_b ax4 (eq_f oc (eq_n rfl)))))))))))) ) (eq_f i10 ?_)))
      show some ((1 : Int32), sA MX4 (gR MX4 130 + 5) (nI c).toNatClampNeg (nI t)) = _
      rw [x130, hcl]
    · unfold yPR
      have e5 : (5 : Int32) * gI MY4 34 + nI c = nI (5 * b + c) := by rw [y34, n5]
      refine eq_b ey2 (eq_b ey3 (eq_b ey4 (eq_t hP4.f8 (eq_f (by show ¬ oob ((5 : Int32) * gI MY4 34 + nI c) 10; rw [e5]; exact nI_in (by omega) (by decide)) ?_))))
      show some (sA MY4 6 ((5 : Int32) * gI MY4 34 + nI c).toNatClampNeg (nI t)) = _
      rw [e5, nI_clamp (by omega)]
    · exact hP4.cong (fun j h1 h2 => rfl) rfl (gA_sA_ne (by omega)) (gA_sA_ne (by omega)) (fun j _ => rfl) rfl (gA_sA_ne (by decide))
    · show gI MY4 33 = _
      rw [fy4.1 33 (by omega), fy3.1 33 (by omega), fy2.1 33 (by omega), fy1.1 33 (by omega)]
      exact hC
