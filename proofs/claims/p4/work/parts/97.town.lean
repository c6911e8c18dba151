/-! A TOWN IS READ: from the call to the last statement on both sides -/
theorem rX_s {q k : Nat} {v : Int32} {M M' : Mem} (h : FX3 q M M') (hk : rgX q k ∨ k = 128 * q) : FX3 q M (sI M' k v) := h.i hk
/-- what the class may change while a town is read, with the reader's town -/
def FX4 (q : Nat) (M M' : Mem) : Prop := (∀ k, ¬ (rgX q k ∨ k = 128 * q) → gI M' k = gI M k) ∧ (∀ a, ¬ (q ≤ a ∧ a < q + 16) → gA M' a = gA M a) ∧ (∀ k, k ≠ 257 → k ≠ 130 → gR M' k = gR M k)
/-- what the reference may change while a town is read -/
def FY4 (b : Nat) (M M' : Mem) : Prop := (∀ k, ¬ (regI k ∨ k = 1 ∨ k = 2 ∨ k = 34) → gI M' k = gI M k) ∧ (∀ a i, ¬ regA b a i → gA M' a i = gA M a i) ∧ (∀ k, k ≠ 7 → gL M' k = gL M k) ∧ (∀ a i, ¬ regB b a i → gB M' a i = gB M a i)
theorem FY2.f {b : Nat} {M M' : Mem} (h : FY2 b M M') : FY4 b M M' := ⟨fun k g => h.1 k (fun z => g (Or.inl z)), h.2⟩
theorem FY4.tr {b : Nat} {M M' M2 : Mem} (h : FY4 b M M') (g : FY4 b M' M2) : FY4 b M M2 := ⟨fun k q => (g.1 k q).trans (h.1 k q), fun a i q => (g.2.1 a i q).trans (h.2.1 a i q), fun k q => (g.2.2.1 k q).trans (h.2.2.1 k q), fun a i q => (g.2.2.2 a i q).trans (h.2.2.2 a i q)⟩
theorem FY4.i {b k : Nat} {v : Int32} {M M' : Mem} (h : FY4 b M M') (hk : regI k ∨ k = 1 ∨ k = 2 ∨ k = 34) : FY4 b M (sI M' k v) := ⟨fun j q => by rw [gI_ne (fun e => q (by rw [e]; exact hk))]; exact h.1 j q, h.2.1, h.2.2.1, h.2.2.2⟩
theorem FY4.a {b a i : Nat} {v : Int32} {M M' : Mem} (h : FY4 b M M') (hk : regA b a i) : FY4 b M (sA M' a i v) := ⟨h.1, fun c j q => by
  rw [gA_sA]
  by_cases e : c = a
  · subst e
    rw [if_pos rfl, if_neg (fun e => q (by rw [e]; exact hk))]
    exact h.2.1 _ _ q
  · rw [if_neg e]
    exact h.2.1 _ _ q, h.2.2.1, h.2.2.2⟩
theorem FY4.r {b : Nat} {M : Mem} : FY4 b M M := ⟨fun _ _ => rfl, fun _ _ _ => rfl, fun _ _ => rfl, fun _ _ _ => rfl⟩
theorem xTown_f {q : Nat} {M : Mem} (hq : q = 31 ∨ q = 47) : FX4 q M (xTown q M) := by
  have h : FX3 q (sR M 130 q) (xTown q M) := by
    unfold xTown
    refine FX3.i (FX3.i (FX3.i (FX3.i (FX3.i (FX3.i (FX3.i (FX3.i (FX3.i (FX3.i (FX3.i (FX3.i FX3.r ?_) ?_) ?_) ?_) ?_) ?_) ?_) ?_) ?_) ?_) ?_) ?_ <;> (unfold rgX; omega)
  exact ⟨fun k g => h.1 k g, fun a g => h.2.1 a g, fun k g g2 => (h.2.2 k g).trans (by rw [gR_sR, if_neg g2])⟩
theorem yTown_f {b : Nat} {M : Mem} (hb : b ≤ 1) : FY4 b M (yTown b M) := by
  unfold yTown
  refine FY4.a (FY4.a (FY4.a (FY4.a (FY4.a (FY4.a (FY4.a (FY4.i (FY4.i (FY4.i (FY4.i (FY4.i (FY4.i FY4.r ?_) ?_) ?_) ?_) ?_) ?_) ?_) ?_) ?_) ?_) ?_) ?_) ?_ <;> first | (unfold regI; omega) | (unfold regA; omega)
theorem townC {n0 L q b : Nat} {MX MY : Mem} (hn : 1700 ≤ n0) (hq : q = 31 ∨ q = 47) (hb : b ≤ 1) (h13 : gI MY 13 = nI (1 - b)) (h16 : L ≤ 1600) (hx : gI MX 641 = nI L) (hy : gI MY 1 = nI L) (hT : gA MY 1 = gA MX 6) (hby : Byt (gA MX 6) L) (hO : ∀ i, i < 25 → gA MX 4 i = nI (ownC i)) :
    (∃ MX' MY' s nt nc nd nr C j, fX4_read n0 q MX = some (1, MX') ∧ fX12_town n0 MY = fX12_town_196 n0 (nI j) MY' ∧ j ≤ 80 ∧ Rd L s q b nt nc nd nr C MX' MY' ∧ gI MX' (128 * q) = nI j ∧ FX4 q MX MX' ∧ FY4 b MY MY' ∧ gI MY' 1 = 0) ∨
    (∃ MX' MY' j, fX4_read n0 q MX = some (0, MX') ∧ fX12_town n0 MY = fX12_town_196 n0 (nI j) MY' ∧ Flt MX' MY' ∧ FX4 q MX MX' ∧ FY4 b MY MY' ∧ gI MY' 1 = 0) := by
  have fX := xTown_f (M := MX) hq
  have fY := yTown_f (M := MY) hb
  have y34 : gI (yTown b MY) 34 = nI b := by unfold yTown; simp only [gI_sA, gI_at]
  have y2 : gI (yTown b MY) 2 = nI L := by unfold yTown; simp only [gI_sA, gI_sI]; rw [if_neg (by decide), if_neg (by decide), if_neg (by decide), if_neg (by decide), if_neg (by decide), if_pos trivial]; exact hy
  have y5 : gI (yTown b MY) 5 = nI 0 := by unfold yTown; simp only [gI_sA, gI_sI]; rfl
  have y8 : gI (yTown b MY) 8 = 0 := by unfold yTown; simp only [gI_sA, gI_sI]; rfl
  have y9 : gI (yTown b MY) 9 = -1 := by unfold yTown; simp only [gI_sA, gI_sI]; rfl
  obtain ⟨N1, e1, o1, z1⟩ := t116 hn hb n0 0 (yTown b MY) (by omega) (by omega) y34
  have gN : ∀ k, ¬ k = 33 → gI (sI N1 33 0) k = gI (yTown b MY) k := fun k hk => by rw [gI_ne hk, o1.1]
  have f2 : FY2 b (yTown b MY) (sI N1 33 0) := FY2.i ⟨fun k _ => by rw [o1.1], fun a i g => o1.2.2.2.2 a i (fun z => g (by unfold regA; omega)), fun k _ => by rw [o1.2.2.1], fun a i _ => by rw [o1.2.2.2.1]⟩ (by unfold regI; omega)
  have a1 : gA (sI N1 33 0) 1 = gA (xTown q MX) 6 := by
    rw [fX.2.1 6 (by omega), ← hT]
    funext i
    exact (f2.2.1 1 i (by unfold regA; omega)).trans (fY.2.1 1 i (by unfold regA; omega))
  have hL0 : Lex0 L (xTown q MX) (sI N1 33 0) := ⟨(fX.1 641 (by unfold rgX; omega)).trans hx, (gN 2 (by decide)).trans y2, h16, a1, by rw [fX.2.1 6 (by omega)]; exact hby, by rw [fX.2.1 4 (by omega)]; exact hO⟩
  have x386 : gI (xTown q MX) 386 = 259 := by unfold xTown; rw [gI_ne (by decide), gI_at]
  obtain ⟨MX1, N3, s, e3, e4, _, hTok, g3, g4⟩ := adv2 (n0 := n0) (p := 0) (by omega) hL0 (by omega) (by unfold xTown; rw [gI_at]; rfl) ((gN 5 (by decide)).trans y5) (by rw [x386]; exact ⟨fun z => absurd rfl z.2, fun z => absurd z.1 (by omega)⟩)
  have hx2 : ∀ k, k < 386 ∨ 390 < k → gI MX1 k = gI (xTown q MX) k := g3.2
  have hy2 : ∀ k, ¬ ((3 ≤ k ∧ k ≤ 6) ∨ k = 12) → gI N3 k = gI (sI N1 33 0) k := g4.1
  have hyA : ∀ a i, gA N3 a i = gA N1 a i := fun a i => by rw [g4.2.1 a id]; rfl
  have yA : ∀ a i, ¬ a = 8 → gA N3 a i = gA (yTown b MY) a i := fun a i h => (hyA a i).trans (o1.2.2.2.2 a i (fun z => h z.1))
  have nf : ∀ {α : Type} {a c : Nat} {x y : α}, ¬ a = c → (if a = c then x else y) = y := fun h => if_neg h
  have c2 : gA (yTown b MY) 2 b = 0 := by unfold yTown; rw [gA_sA, nf (by decide), gA_sA, nf (by decide), gA_sA, nf (by decide), gA_sA, nf (by decide), gA_sA, nf (by decide), gA_sA, nf (by decide), gA_sA, if_pos rfl, if_pos rfl]
  have c5 : gA (yTown b MY) 5 b = 0 := by unfold yTown; rw [gA_sA, nf (by decide), gA_sA, nf (by decide), gA_sA, nf (by decide), gA_sA, nf (by decide), gA_sA, nf (by decide), gA_sA, if_pos rfl, if_pos rfl]
  have c7 : gA (yTown b MY) 7 b = 0 := by unfold yTown; rw [gA_sA, nf (by decide), gA_sA, nf (by decide), gA_sA, nf (by decide), gA_sA, nf (by decide), gA_sA, if_pos rfl, if_pos rfl]
  have c10 : gA (yTown b MY) 10 b = 0 := by unfold yTown; rw [gA_sA, nf (by decide), gA_sA, nf (by decide), gA_sA, nf (by decide), gA_sA, if_pos rfl, if_pos rfl]
  have c13 : gA (yTown b MY) 13 b = 0 := by unfold yTown; rw [gA_sA, nf (by decide), gA_sA, nf (by decide), gA_sA, if_pos rfl, if_pos rfl]
  have c14 : gA (yTown b MY) 14 (2 * b) = -1 := by unfold yTown; rw [gA_sA, if_pos rfl, nf (by omega), gA_sA, if_pos rfl, if_pos rfl]
  have c15 : gA (yTown b MY) 14 (2 * b + 1) = -1 := by unfold yTown; rw [gA_sA, if_pos rfl, if_pos rfl]
  have d0 : gI (xTown q MX) (128 * q + 0) = 0 := by unfold xTown; rw [gI_ne (by omega), gI_ne (by omega), gI_ne (by omega), gI_ne (by omega), gI_ne (by omega), gI_ne (by omega), gI_ne (by omega), gI_ne (by omega), gI_ne (by omega), gI_ne (by omega), gI_ne (by omega), gI_at]
  have d1 : gI (xTown q MX) (128 * q + 1) = 0 := by unfold xTown; rw [gI_ne (by omega), gI_ne (by omega), gI_ne (by omega), gI_ne (by omega), gI_ne (by omega), gI_ne (by omega), gI_ne (by omega), gI_ne (by omega), gI_ne (by omega), gI_ne (by omega), gI_at]
  have d5 : gI (xTown q MX) (128 * q + 5) = 0 := by unfold xTown; rw [gI_ne (by omega), gI_ne (by omega), gI_ne (by omega), gI_ne (by omega), gI_ne (by omega), gI_ne (by omega), gI_ne (by omega), gI_ne (by omega), gI_ne (by omega), gI_at]
  have d8 : gI (xTown q MX) (128 * q + 8) = 0 := by unfold xTown; rw [gI_ne (by omega), gI_ne (by omega), gI_ne (by omega), gI_ne (by omega), gI_ne (by omega), gI_ne (by omega), gI_ne (by omega), gI_ne (by omega), gI_at]
  have d12 : gI (xTown q MX) (128 * q + 12) = 0 := by unfold xTown; rw [gI_ne (by omega), gI_ne (by omega), gI_ne (by omega), gI_ne (by omega), gI_ne (by omega), gI_ne (by omega), gI_ne (by omega), gI_at]
  have d16 : gI (xTown q MX) (128 * q + 16) = 0 := by unfold xTown; rw [gI_ne (by omega), gI_ne (by omega), gI_ne (by omega), gI_ne (by omega), gI_ne (by omega), gI_ne (by omega), gI_at]
  have dA : gI (xTown q MX) (128 * (q + 12) + 1) = 0 := by unfold xTown; rw [gI_ne (by omega), gI_ne (by omega), gI_ne (by omega), gI_ne (by omega), gI_ne (by omega), gI_at]
  have dB : gI (xTown q MX) (128 * (q + 14) + 1) = 0 := by unfold xTown; rw [gI_ne (by omega), gI_ne (by omega), gI_ne (by omega), gI_ne (by omega), gI_at]
  have dE : gI (xTown q MX) 391 = 0 := by unfold xTown; rw [gI_ne (by omega), gI_ne (by omega), gI_ne (by omega), gI_at]
  have dF : gI (xTown q MX) 392 = -1 := by unfold xTown; rw [gI_ne (by omega), gI_ne (by omega), gI_at]
  have dR : gR (xTown q MX) 130 = q := by unfold xTown; show gR (sR MX 130 q) 130 = q; rw [gR_sR, if_pos rfl]
  have hT2 : TownR q b 0 0 0 0 0 MX1 N3 := by
    refine ⟨⟨⟨(hx2 _ (by omega)).trans d1, (yA 2 b (by decide)).trans c2, by decide, fun i h => by omega⟩, ⟨(hx2 _ (by omega)).trans d5, (yA 5 b (by decide)).trans c5, by decide, fun i h => by omega⟩, ⟨(hx2 _ (by omega)).trans d12, (yA 10 b (by decide)).trans c10, by decide, fun i h => by omega⟩⟩, fun i h => by omega, fun i h => by omega, fun i h => by omega, ⟨(hx2 _ (by omega)).trans d8, (yA 7 b (by decide)).trans c7, by decide, fun k h => by omega, fun a c ha hc => Or.inl ⟨?_, fun k h => by omega⟩⟩, ⟨0, by decide, (hx2 _ (by omega)).trans d16, (yA 13 b (by decide)).trans c13⟩, Or.inl ⟨(hx2 _ (by omega)).trans dA, (yA 14 (2 * b) (by decide)).trans c14⟩, Or.inl ⟨(hx2 _ (by omega)).trans dB, (yA 14 (2 * b + 1) (by decide)).trans c15⟩, by decide⟩
    exact (hyA 8 _).trans (z1 _ (by omega) (by omega))
  have hL1 : Lex0 L MX1 N3 := ⟨(hx2 641 (by decide)).trans hL0.1, (hy2 2 (by omega)).trans hL0.2.1, h16, by rw [g4.2.1 1 id, g3.A]; exact a1, by rw [g3.A]; exact hL0.2.2.2.2.1, by rw [g3.A]; exact hL0.2.2.2.2.2⟩
  have hRd : Rd L s q b 0 0 0 0 0 MX1 N3 := ⟨⟨hL1, hTok, (hx2 391 (by decide)).trans dE, (hx2 392 (by decide)).trans dF, ((hy2 8 (by omega)).trans (gN 8 (by decide))).trans y8, ((hy2 9 (by omega)).trans (gN 9 (by decide))).trans y9⟩, ⟨by rw [g3.R]; exact dR, hq, ((hy2 34 (by omega)).trans (gN 34 (by decide))).trans y34, hb⟩, hT2, (hy2 33 (by omega)).trans gI_at, by omega⟩
  have fx1 : ∀ M', FX3 q MX1 M' → FX4 q MX M' := fun M' h => by
    have h2 := (FI.q (q := q) (g3.wk (by decide) (by decide))).t.tr h
    exact ⟨fun k g => (h2.1 k g).trans (fX.1 k g), fun a g => (h2.2.1 a g).trans (fX.2.1 a g), fun k g g2 => (h2.2.2 k g).trans (fX.2.2 k g g2)⟩
  have fy1 : ∀ M', FY2 b N3 M' → FY4 b MY M' := fun M' h => fY.tr ((f2.tr (g4.Y.b.tr h)).f)
  have y1 : gI (yTown b MY) 1 = 0 := by unfold yTown; simp only [gI_sA, gI_sI]; rfl
  have z1' : ∀ M', FY2 b N3 M' → gI M' 1 = 0 := fun M' h => (h.1 1 (by unfold regI; omega)).trans ((hy2 1 (by omega)).trans ((gN 1 (by decide)).trans y1))
  have ex0 : fX4_read n0 q MX = loopN (bX4_read_21 n0 q) (fun _ _ => none) n0 (nI 0) MX1 := xread e3
  have ey0 : fX12_town n0 MY = loopN (bX12_town_167 n0) (fun _ _ => none) n0 (nI 0) N3 := by
    rw [ytown hb h13]
    refine Eq.trans e1 ?_
    unfold yCont
    exact eq_n (eq_b e4 rfl)
  rcases rdL (q1 := q) hn n0 0 s 0 0 0 0 0 MX1 N3 hRd ((hx2 _ (by omega)).trans d0) (by omega) (fun h => by omega) (by omega) with ⟨MX', MY', s', nt, nc, nd, nr, C, j, k1, k2, k3, _, k4, k5, k6, k7⟩ | ⟨MX', MY', j, k1, k2, k3, k4, k5⟩
  · exact Or.inl ⟨MX', MY', s', nt, nc, nd, nr, C, j, ex0.trans k1, ey0.trans k2, k3, k4, k5, fx1 _ k6, fy1 _ k7, z1' _ k7⟩
  · exact Or.inr ⟨MX', MY', j, ex0.trans k1, ey0.trans k2, k3, fx1 _ k4, fy1 _ k5, z1' _ k5⟩
