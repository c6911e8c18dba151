section
/-! A TOWN IS READ: the start of it on both sides -/
/-- only int arrays are other than before, and of them these cells alone -/
def OnlyA (P : Nat → Nat → Prop) (M M' : Mem) : Prop := gI M' = gI M ∧ gR M' = gR M ∧ gL M' = gL M ∧ gB M' = gB M ∧ ∀ a i, ¬ P a i → gA M' a i = gA M a i
theorem t123 {n0 b a : Nat} {k116 : Int32 → Mem → Option (Int32 × Mem)} (hb : b ≤ 1) (ha : a < 5) : ∀ (w c : Nat) (M : Mem), c ≤ 5 → 5 < w + c → gI M 34 = nI b → ∃ M', loopN (bX12_town_123 n0 k116) (fun _ _ _ => none) w (nI a) (nI c) M = k116 (nI (a + 1)) M' ∧ OnlyA (fun e i => e = 8 ∧ 25 * b + (5 * a + c) ≤ i ∧ i < 25 * b + (5 * a + 5)) M M' ∧ ∀ i, 25 * b + (5 * a + c) ≤ i → i < 25 * b + (5 * a + 5) → gA M' 8 i = 0 := by
  intro w
  induction w with
  | zero => intro c M _ h; omega
  | succ w ih =>
    intro c M hc hw h34
    rw [lpS, bX12_town_123]
    by_cases g : 5 ≤ c
    · refine ⟨M, eq_t (nI_le (a := 5) g (by omega)) (by rw [nI_1]), ⟨rfl, rfl, rfl, rfl, fun _ _ _ => rfl⟩, fun i h1 h2 => by omega⟩
    · have ea : fX12_at n0 (gI M 34) (nI a) (nI c) M = some (nI (25 * b + (5 * a + c)), M) := by rw [h34]; exact yat
      have hcl : (nI (25 * b + (5 * a + c))).toNatClampNeg = 25 * b + (5 * a + c) := nI_clamp (by omega)
      obtain ⟨M', e1, e2, e3⟩ := ih (c + 1) (sA M 8 (25 * b + (5 * a + c)) 0) (by omega) (by omega) h34
      refine ⟨M', eq_f (nI_ge (b := 5) (by omega) (by decide)) (eq_b ea (eq_f (nI_in (by omega) (by decide)) (eq_n ?_))), ⟨e2.1, e2.2.1, e2.2.2.1, e2.2.2.2.1, fun e i h => ?_⟩, fun i h1 h2 => ?_⟩
      · show loopN (bX12_town_123 n0 k116) (fun _ _ _ => none) w (nI a) (nI c + 1) (sA M 8 (nI (25 * b + (5 * a + c))).toNatClampNeg 0) = _
        rw [hcl, nI_1]
        exact e1
      · rw [e2.2.2.2.2 e i (by omega), gA_sA]
        by_cases q : e = 8
        · rw [if_pos q, if_neg (by omega), q]
        · rw [if_neg q]
      · by_cases q : i = 25 * b + (5 * a + c)
        · rw [e2.2.2.2.2 8 i (by omega), gA_sA, if_pos rfl, if_pos q]
        · exact e3 i (by omega) h2
/-- what follows the clearing of the roads -/
def yCont (n0 : Nat) (M : Mem) : Option (Int32 × Mem) := bnd (sI M 33 (0 : Int32)) fun M158 => (fX12_ahead n0 M158).bind fun z164 => fX12_town_167 n0 (0 : Int32) z164
theorem t116 {n0 b : Nat} (hn : 1700 ≤ n0) (hb : b ≤ 1) : ∀ (w a : Nat) (M : Mem), a ≤ 5 → 5 < w + a → gI M 34 = nI b → ∃ M', loopN (bX12_town_116 n0) (fun _ _ => none) w (nI a) M = yCont n0 M' ∧ OnlyA (fun e i => e = 8 ∧ 25 * b + 5 * a ≤ i ∧ i < 25 * b + 25) M M' ∧ ∀ i, 25 * b + 5 * a ≤ i → i < 25 * b + 25 → gA M' 8 i = 0 := by
  intro w
  induction w with
  | zero => intro a M _ h; omega
  | succ w ih =>
    intro a M ha hw h34
    rw [lpS, bX12_town_116]
    by_cases g : 5 ≤ a
    · exact ⟨M, eq_t (nI_le (a := 5) g (by omega)) rfl, ⟨rfl, rfl, rfl, rfl, fun _ _ _ => rfl⟩, fun i h1 h2 => by omega⟩
    · obtain ⟨M1, e1, e2, e3⟩ := t123 (n0 := n0) (k116 := loopN (bX12_town_116 n0) (fun _ _ => none) w) hb (show a < 5 by omega) n0 0 M (by omega) (by omega) h34
      obtain ⟨M2, d1, d2, d3⟩ := ih (a + 1) M1 (by omega) (by omega) (by rw [e2.1]; exact h34)
      refine ⟨M2, eq_f (nI_ge (b := 5) (by omega) (by decide)) (e1.trans d1), ⟨d2.1.trans e2.1, d2.2.1.trans e2.2.1, d2.2.2.1.trans e2.2.2.1, d2.2.2.2.1.trans e2.2.2.2.1, fun e i h => ?_⟩, fun i h1 h2 => ?_⟩
      · rw [d2.2.2.2.2 e i (by omega), e2.2.2.2.2 e i (by omega)]
      · by_cases q : i < 25 * b + (5 * a + 5)
        · rw [d2.2.2.2.2 8 i (by omega)]
          exact e3 i (by omega) q
        · exact d3 i (by omega) h2
/-- the class's memory ahead of its first token -/
def xTown (q : Nat) (M : Mem) : Mem := sI (sI (sI (sI (sI (sI (sI (sI (sI (sI (sI (sI (sR M 130 q) (128 * q + 0) 0) (128 * q + 1) 0) (128 * q + 5) 0) (128 * q + 8) 0) (128 * q + 12) 0) (128 * q + 16) 0) (128 * (q + 12) + 1) 0) (128 * (q + 14) + 1) 0) 391 0) 392 (-1)) 386 259) 390 0
theorem xread {n0 q : Nat} {M MX1 : Mem} (ha : fX8_advance n0 (xTown q M) = some MX1) : fX4_read n0 q M = fX4_read_21 n0 q 0 MX1 := by
  have g : gR (sR M 130 q) 130 = q := by rw [gR_sR, if_pos rfl]
  unfold fX4_read fX9_clear fX8_begin
  refine eq_n ?_
  rw [g]
  exact eq_b rfl (eq_b (eq_n (eq_n (eq_n (eq_n (eq_b ha rfl))))) rfl)
/-- the reference's memory ahead of the clearing of the roads -/
def yTown (b : Nat) (M : Mem) : Mem := sA (sA (sA (sA (sA (sA (sA (sI (sI (sI (sI (sI (sI M 2 (gI M 1)) 1 0) 5 0) 8 0) 9 (-1)) 34 (nI b)) 2 b 0) 5 b 0) 7 b 0) 10 b 0) 13 b 0) 14 (2 * b) (-1)) 14 (2 * b + 1) (-1)
theorem clr {ρ : Type} {M : Mem} {n a j : Nat} {i v : Int32} {k : Mem → Option ρ} {r : Option ρ} (e : i = nI j) (hj : j < 4) (hn : ¬ oob (nI j) n) (h : k (sA M a j v) = r) : (if oob i n then none else bnd (sA M a i.toNatClampNeg v) k) = r := by
  subst e
  refine eq_f hn (eq_n ?_)
  rw [nI_clamp (by omega)]
  exact h
theorem ytown {n0 b : Nat} {M : Mem} (hb : b ≤ 1) (h13 : gI M 13 = nI (1 - b)) : fX12_town n0 M = fX12_town_116 n0 0 (yTown b M) := by
  have e34 : (1 : Int32) - gI (sI (sI (sI (sI (sI M 2 (gI M 1)) 1 0) 5 0) 8 0) 9 (-1)) 13 = nI b := by
    rw [gI_ne (by decide), gI_ne (by decide), gI_ne (by decide), gI_ne (by decide), gI_ne (by decide), h13]
    have : b = 0 ∨ b = 1 := by omega
    rcases this with q | q <;> rw [q] <;> decide
  have o : ¬ oob (nI b) 2 := nI_in (by omega) (by decide)
  have m2 : (2 : Int32) * nI b = nI (2 * b) := by rw [← nI_mul]; rfl
  have m3 : (2 : Int32) * nI b + 1 = nI (2 * b + 1) := by rw [m2]; exact nI_1 _
  have o2 : ¬ oob (nI (2 * b)) 4 := nI_in (by omega) (by decide)
  have o3 : ¬ oob (nI (2 * b + 1)) 4 := nI_in (by omega) (by decide)
  unfold fX12_town yTown
  refine eq_n (eq_n (eq_n (eq_n (eq_n (eq_n ?_)))))
  rw [e34]
  refine clr (j := b) (by simp only [gI_sA, gI_at]) (by omega) o ?_
  refine clr (j := b) (by simp only [gI_sA, gI_at]) (by omega) o ?_
  refine clr (j := b) (by simp only [gI_sA, gI_at]) (by omega) o ?_
  refine clr (j := b) (by simp only [gI_sA, gI_at]) (by omega) o ?_
  refine clr (j := b) (by simp only [gI_sA, gI_at]) (by omega) o ?_
  refine clr (j := 2 * b) ((congrArg (fun z : Int32 => (2 : Int32) * z) (show _ = nI b by simp only [gI_sA, gI_at])).trans m2) (by omega) o2 ?_
  refine clr (j := 2 * b + 1) ((congrArg (fun z : Int32 => (2 : Int32) * z + 1) (show _ = nI b by simp only [gI_sA, gI_at])).trans m3) (by omega) o3 ?_
  rfl
end
section
/-! A TOWN IS READ: from the call to the last statement on both sides -/
theorem rX_s {q k : Nat} {v : Int32} {M M' : Mem} (h : FX3 q M M') (hk : rgX q k ∨ k = 128 * q) : FX3 q M (sI M' k v) := h.i hk
/-- what the class may change while a town is read, with the reader's town -/
def FX4 (q : Nat) (M M' : Mem) : Prop := (∀ k, ¬ (rgX q k ∨ k = 128 * q) → gI M' k = gI M k) ∧ (∀ a, ¬ (q ≤ a ∧ a < q + 16) → gA M' a = gA M a) ∧ (∀ k, k ≠ 257 → k ≠ 130 → gR M' k = gR M k)
/-- what the reference may change while a town is read -/
def FY4 (b : Nat) (M M' : Mem) : Prop := (∀ k, ¬ (regI k ∨ k = 1 ∨ k = 2 ∨ k = 34) → gI M' k = gI M k) ∧ (∀ a i, ¬ regA b a i → gA M' a i = gA M a i) ∧ (∀ k, k ≠ 7 → gL M' k = gL M k) ∧ (∀ a i, ¬ regB b a i → gB M' a i = gB M a i)
theorem FY2.f {b : Nat} {M M' : Mem} (h : FY2 b M M') : FY4 b M M' := ⟨fun k g => h.1 k (fun z => g (Or.inl z)), h.2⟩
theorem FY4.tr {b : Nat} {M M' M2 : Mem} (h : FY4 b M M') (g : FY4 b M' M2) : FY4 b M M2 := ⟨fun k q => (g.1 k q).trans (h.1 k q), fun a i q => (g.2.1 a i q).trans (h.2.1 a i q), fun k q => (g.2.2.1 k q).trans (h.2.2.1 k q), fun a i q => (g.2.2.2 a i q).trans (h.2.2.2 a i q)⟩
theorem FY4.i {b k : Nat} {v : Int32} {M M' : Mem} (h : FY4 b M M') (hk : regI k ∨ k = 1 ∨ k = 2 ∨ k = 34) : FY4 b M (sI M' k v) := ⟨fun j q => by rw [gI_ne (fun e => q (by rw [e]; exact hk))]; exact h.1 j q, h.2.1, h.2.2.1, h.2.2.2⟩
theorem FY4.a {b a i : Nat} {v : Int32} {M M' : Mem} (h : FY4 b M M') (hk : regA b a i) : FY4 b M (sA M' a i v) := ⟨h.1, fun c j q => by
  rw [gA_sA]
  by_cases e : c = a
  · subst e
    rw [if_pos rfl, if_neg (fun e => q (by rw [e]; exact hk))]
    exact h.2.1 _ _ q
  · rw [if_neg e]
    exact h.2.1 _ _ q, h.2.2.1, h.2.2.2⟩
theorem FY4.r {b : Nat} {M : Mem} : FY4 b M M := ⟨fun _ _ => rfl, fun _ _ _ => rfl, fun _ _ => rfl, fun _ _ _ => rfl⟩
theorem xTown_f {q : Nat} {M : Mem} (hq : q = 31 ∨ q = 47) : FX4 q M (xTown q M) := by
  have h : FX3 q (sR M 130 q) (xTown q M) := by
    unfold xTown
    refine FX3.i (FX3.i (FX3.i (FX3.i (FX3.i (FX3.i (FX3.i (FX3.i (FX3.i (FX3.i (FX3.i (FX3.i FX3.r ?_) ?_) ?_) ?_) ?_) ?_) ?_) ?_) ?_) ?_) ?_) ?_ <;> (unfold rgX; omega)
  exact ⟨fun k g => h.1 k g, fun a g => h.2.1 a g, fun k g g2 => (h.2.2 k g).trans (by rw [gR_sR, if_neg g2])⟩
theorem yTown_f {b : Nat} {M : Mem} (hb : b ≤ 1) : FY4 b M (yTown b M) := by
  unfold yTown
  refine FY4.a (FY4.a (FY4.a (FY4.a (FY4.a (FY4.a (FY4.a (FY4.i (FY4.i (FY4.i (FY4.i (FY4.i (FY4.i FY4.r ?_) ?_) ?_) ?_) ?_) ?_) ?_) ?_) ?_) ?_) ?_) ?_) ?_ <;> first | (unfold regI; omega) | (unfold regA; omega)
theorem townC {n0 L q b : Nat} {MX MY : Mem} (hn : 1700 ≤ n0) (hq : q = 31 ∨ q = 47) (hb : b ≤ 1) (h13 : gI MY 13 = nI (1 - b)) (h16 : L ≤ 1600) (hx : gI MX 641 = nI L) (hy : gI MY 1 = nI L) (hT : gA MY 1 = gA MX 6) (hby : Byt (gA MX 6) L) (hO : ∀ i, i < 25 → gA MX 4 i = nI (ownC i)) :
    (∃ MX' MY' s nt nc nd nr C j, fX4_read n0 q MX = some (1, MX') ∧ fX12_town n0 MY = fX12_town_196 n0 (nI j) MY' ∧ j ≤ 80 ∧ Rd L s q b nt nc nd nr C MX' MY' ∧ gI MX' (128 * q) = nI j ∧ FX4 q MX MX' ∧ FY4 b MY MY' ∧ gI MY' 1 = 0) ∨
    (∃ MX' MY' j, fX4_read n0 q MX = some (0, MX') ∧ fX12_town n0 MY = fX12_town_196 n0 (nI j) MY' ∧ Flt MX' MY' ∧ FX4 q MX MX' ∧ FY4 b MY MY' ∧ gI MY' 1 = 0) := by
  have fX := xTown_f (M := MX) hq
  have fY := yTown_f (M := MY) hb
  have y34 : gI (yTown b MY) 34 = nI b := by unfold yTown; simp only [gI_sA, gI_at]
  have y2 : gI (yTown b MY) 2 = nI L := by unfold yTown; simp only [gI_sA, gI_sI]; rw [if_neg (by decide), if_neg (by decide), if_neg (by decide), if_neg (by decide), if_neg (by decide), if_pos trivial]; exact hy
  have y5 : gI (yTown b MY) 5 = nI 0 := by unfold yTown; simp only [gI_sA, gI_sI]; rfl
  have y8 : gI (yTown b MY) 8 = 0 := by unfold yTown; simp only [gI_sA, gI_sI]; rfl
  have y9 : gI (yTown b MY) 9 = -1 := by unfold yTown; simp only [gI_sA, gI_sI]; rfl
  obtain ⟨N1, e1, o1, z1⟩ := t116 hn hb n0 0 (yTown b MY) (by omega) (by omega) y34
  have gN : ∀ k, ¬ k = 33 → gI (sI N1 33 0) k = gI (yTown b MY) k := fun k hk => by rw [gI_ne hk, o1.1]
  have f2 : FY2 b (yTown b MY) (sI N1 33 0) := FY2.i ⟨fun k _ => by rw [o1.1], fun a i g => o1.2.2.2.2 a i (fun z => g (by unfold regA; omega)), fun k _ => by rw [o1.2.2.1], fun a i _ => by rw [o1.2.2.2.1]⟩ (by unfold regI; omega)
  have a1 : gA (sI N1 33 0) 1 = gA (xTown q MX) 6 := by
    rw [fX.2.1 6 (by omega), ← hT]
    funext i
    exact (f2.2.1 1 i (by unfold regA; omega)).trans (fY.2.1 1 i (by unfold regA; omega))
  have hL0 : Lex0 L (xTown q MX) (sI N1 33 0) := ⟨(fX.1 641 (by unfold rgX; omega)).trans hx, (gN 2 (by decide)).trans y2, h16, a1, by rw [fX.2.1 6 (by omega)]; exact hby, by rw [fX.2.1 4 (by omega)]; exact hO⟩
  have x386 : gI (xTown q MX) 386 = 259 := by unfold xTown; rw [gI_ne (by decide), gI_at]
  obtain ⟨MX1, N3, s, e3, e4, _, hTok, g3, g4⟩ := adv2 (n0 := n0) (p := 0) (by omega) hL0 (by omega) (by unfold xTown; rw [gI_at]; rfl) ((gN 5 (by decide)).trans y5) (by rw [x386]; exact ⟨fun z => absurd rfl z.2, fun z => absurd z.1 (by omega)⟩)
  have hx2 : ∀ k, k < 386 ∨ 390 < k → gI MX1 k = gI (xTown q MX) k := g3.2
  have hy2 : ∀ k, ¬ ((3 ≤ k ∧ k ≤ 6) ∨ k = 12) → gI N3 k = gI (sI N1 33 0) k := g4.1
  have hyA : ∀ a i, gA N3 a i = gA N1 a i := fun a i => by rw [g4.2.1 a id]; rfl
  have yA : ∀ a i, ¬ a = 8 → gA N3 a i = gA (yTown b MY) a i := fun a i h => (hyA a i).trans (o1.2.2.2.2 a i (fun z => h z.1))
  have nf : ∀ {α : Type} {a c : Nat} {x y : α}, ¬ a = c → (if a = c then x else y) = y := fun h => if_neg h
  have c2 : gA (yTown b MY) 2 b = 0 := by unfold yTown; rw [gA_sA, nf (by decide), gA_sA, nf (by decide), gA_sA, nf (by decide), gA_sA, nf (by decide), gA_sA, nf (by decide), gA_sA, nf (by decide), gA_sA, if_pos rfl, if_pos rfl]
  have c5 : gA (yTown b MY) 5 b = 0 := by unfold yTown; rw [gA_sA, nf (by decide), gA_sA, nf (by decide), gA_sA, nf (by decide), gA_sA, nf (by decide), gA_sA, nf (by decide), gA_sA, if_pos rfl, if_pos rfl]
  have c7 : gA (yTown b MY) 7 b = 0 := by unfold yTown; rw [gA_sA, nf (by decide), gA_sA, nf (by decide), gA_sA, nf (by decide), gA_sA, nf (by decide), gA_sA, if_pos rfl, if_pos rfl]
  have c10 : gA (yTown b MY) 10 b = 0 := by unfold yTown; rw [gA_sA, nf (by decide), gA_sA, nf (by decide), gA_sA, nf (by decide), gA_sA, if_pos rfl, if_pos rfl]
  have c13 : gA (yTown b MY) 13 b = 0 := by unfold yTown; rw [gA_sA, nf (by decide), gA_sA, nf (by decide), gA_sA, if_pos rfl, if_pos rfl]
  have c14 : gA (yTown b MY) 14 (2 * b) = -1 := by unfold yTown; rw [gA_sA, if_pos rfl, nf (by omega), gA_sA, if_pos rfl, if_pos rfl]
  have c15 : gA (yTown b MY) 14 (2 * b + 1) = -1 := by unfold yTown; rw [gA_sA, if_pos rfl, if_pos rfl]
  have d0 : gI (xTown q MX) (128 * q + 0) = 0 := by unfold xTown; rw [gI_ne (by omega), gI_ne (by omega), gI_ne (by omega), gI_ne (by omega), gI_ne (by omega), gI_ne (by omega), gI_ne (by omega), gI_ne (by omega), gI_ne (by omega), gI_ne (by omega), gI_ne (by omega), gI_at]
  have d1 : gI (xTown q MX) (128 * q + 1) = 0 := by unfold xTown; rw [gI_ne (by omega), gI_ne (by omega), gI_ne (by omega), gI_ne (by omega), gI_ne (by omega), gI_ne (by omega), gI_ne (by omega), gI_ne (by omega), gI_ne (by omega), gI_ne (by omega), gI_at]
  have d5 : gI (xTown q MX) (128 * q + 5) = 0 := by unfold xTown; rw [gI_ne (by omega), gI_ne (by omega), gI_ne (by omega), gI_ne (by omega), gI_ne (by omega), gI_ne (by omega), gI_ne (by omega), gI_ne (by omega), gI_ne (by omega), gI_at]
  have d8 : gI (xTown q MX) (128 * q + 8) = 0 := by unfold xTown; rw [gI_ne (by omega), gI_ne (by omega), gI_ne (by omega), gI_ne (by omega), gI_ne (by omega), gI_ne (by omega), gI_ne (by omega), gI_ne (by omega), gI_at]
  have d12 : gI (xTown q MX) (128 * q + 12) = 0 := by unfold xTown; rw [gI_ne (by omega), gI_ne (by omega), gI_ne (by omega), gI_ne (by omega), gI_ne (by omega), gI_ne (by omega), gI_ne (by omega), gI_at]
  have d16 : gI (xTown q MX) (128 * q + 16) = 0 := by unfold xTown; rw [gI_ne (by omega), gI_ne (by omega), gI_ne (by omega), gI_ne (by omega), gI_ne (by omega), gI_ne (by omega), gI_at]
  have dA : gI (xTown q MX) (128 * (q + 12) + 1) = 0 := by unfold xTown; rw [gI_ne (by omega), gI_ne (by omega), gI_ne (by omega), gI_ne (by omega), gI_ne (by omega), gI_at]
  have dB : gI (xTown q MX) (128 * (q + 14) + 1) = 0 := by unfold xTown; rw [gI_ne (by omega), gI_ne (by omega), gI_ne (by omega), gI_ne (by omega), gI_at]
  have dE : gI (xTown q MX) 391 = 0 := by unfold xTown; rw [gI_ne (by omega), gI_ne (by omega), gI_ne (by omega), gI_at]
  have dF : gI (xTown q MX) 392 = -1 := by unfold xTown; rw [gI_ne (by omega), gI_ne (by omega), gI_at]
  have dR : gR (xTown q MX) 130 = q := by unfold xTown; show gR (sR MX 130 q) 130 = q; rw [gR_sR, if_pos rfl]
  have hT2 : TownR q b 0 0 0 0 0 MX1 N3 := by
    refine ⟨⟨⟨(hx2 _ (by omega)).trans d1, (yA 2 b (by decide)).trans c2, by decide, fun i h => by omega⟩, ⟨(hx2 _ (by omega)).trans d5, (yA 5 b (by decide)).trans c5, by decide, fun i h => by omega⟩, ⟨(hx2 _ (by omega)).trans d12, (yA 10 b (by decide)).trans c10, by decide, fun i h => by omega⟩⟩, fun i h => by omega, fun i h => by omega, fun i h => by omega, ⟨(hx2 _ (by omega)).trans d8, (yA 7 b (by decide)).trans c7, by decide, fun k h => by omega, fun a c ha hc => Or.inl ⟨?_, fun k h => by omega⟩⟩, ⟨0, by decide, (hx2 _ (by omega)).trans d16, (yA 13 b (by decide)).trans c13⟩, Or.inl ⟨(hx2 _ (by omega)).trans dA, (yA 14 (2 * b) (by decide)).trans c14⟩, Or.inl ⟨(hx2 _ (by omega)).trans dB, (yA 14 (2 * b + 1) (by decide)).trans c15⟩, by decide⟩
    exact (hyA 8 _).trans (z1 _ (by omega) (by omega))
  have hL1 : Lex0 L MX1 N3 := ⟨(hx2 641 (by decide)).trans hL0.1, (hy2 2 (by omega)).trans hL0.2.1, h16, by rw [g4.2.1 1 id, g3.A]; exact a1, by rw [g3.A]; exact hL0.2.2.2.2.1, by rw [g3.A]; exact hL0.2.2.2.2.2⟩
  have hRd : Rd L s q b 0 0 0 0 0 MX1 N3 := ⟨⟨hL1, hTok, (hx2 391 (by decide)).trans dE, (hx2 392 (by decide)).trans dF, ((hy2 8 (by omega)).trans (gN 8 (by decide))).trans y8, ((hy2 9 (by omega)).trans (gN 9 (by decide))).trans y9⟩, ⟨by rw [g3.R]; exact dR, hq, ((hy2 34 (by omega)).trans (gN 34 (by decide))).trans y34, hb⟩, hT2, (hy2 33 (by omega)).trans gI_at, by omega⟩
  have fx1 : ∀ M', FX3 q MX1 M' → FX4 q MX M' := fun M' h => by
    have h2 := (FI.q (q := q) (g3.wk (by decide) (by decide))).t.tr h
    exact ⟨fun k g => (h2.1 k g).trans (fX.1 k g), fun a g => (h2.2.1 a g).trans (fX.2.1 a g), fun k g g2 => (h2.2.2 k g).trans (fX.2.2 k g g2)⟩
  have fy1 : ∀ M', FY2 b N3 M' → FY4 b MY M' := fun M' h => fY.tr ((f2.tr (g4.Y.b.tr h)).f)
  have y1 : gI (yTown b MY) 1 = 0 := by unfold yTown; simp only [gI_sA, gI_sI]; rfl
  have z1' : ∀ M', FY2 b N3 M' → gI M' 1 = 0 := fun M' h => (h.1 1 (by unfold regI; omega)).trans ((hy2 1 (by omega)).trans ((gN 1 (by decide)).trans y1))
  have ex0 : fX4_read n0 q MX = loopN (bX4_read_21 n0 q) (fun _ _ => none) n0 (nI 0) MX1 := xread e3
  have ey0 : fX12_town n0 MY = loopN (bX12_town_167 n0) (fun _ _ => none) n0 (nI 0) N3 := by
    rw [ytown hb h13]
    refine Eq.trans e1 ?_
    unfold yCont
    exact eq_n (eq_b e4 rfl)
  rcases rdL (q1 := q) hn n0 0 s 0 0 0 0 0 MX1 N3 hRd ((hx2 _ (by omega)).trans d0) (by omega) (fun h => by omega) (by omega) with ⟨MX', MY', s', nt, nc, nd, nr, C, j, k1, k2, k3, _, k4, k5, k6, k7⟩ | ⟨MX', MY', j, k1, k2, k3, k4, k5⟩
  · exact Or.inl ⟨MX', MY', s', nt, nc, nd, nr, C, j, ex0.trans k1, ey0.trans k2, k3, k4, k5, fx1 _ k6, fy1 _ k7, z1' _ k7⟩
  · exact Or.inr ⟨MX', MY', j, ex0.trans k1, ey0.trans k2, k3, fx1 _ k4, fy1 _ k5, z1' _ k5⟩
end
section
/-! MEASURES: the reference measures the told town's roads; it comes to an end and touches its own cells alone -/
theorem OnlyA.r {P : Nat → Nat → Prop} {M : Mem} : OnlyA P M M := ⟨rfl, rfl, rfl, rfl, fun _ _ _ => rfl⟩
theorem OnlyA.tr {P : Nat → Nat → Prop} {M M' M2 : Mem} (h : OnlyA P M M') (g : OnlyA P M' M2) : OnlyA P M M2 := ⟨g.1.trans h.1, g.2.1.trans h.2.1, g.2.2.1.trans h.2.2.1, g.2.2.2.1.trans h.2.2.2.1, fun a i q => (g.2.2.2.2 a i q).trans (h.2.2.2.2 a i q)⟩
theorem OnlyA.s {P : Nat → Nat → Prop} {M M' : Mem} {a i : Nat} {v : Int32} (h : OnlyA P M M') (hk : P a i) : OnlyA P M (sA M' a i v) := ⟨h.1, h.2.1, h.2.2.1, h.2.2.2.1, fun c j q => by
  rw [gA_sA]
  by_cases e : c = a
  · subst e
    rw [if_pos rfl, if_neg (fun e => q (by rw [e]; exact hk))]
    exact h.2.2.2.2 _ _ q
  · rw [if_neg e]
    exact h.2.2.2.2 _ _ q⟩
def P9 (b : Nat) : Nat → Nat → Prop := fun e i => e = 9 ∧ 25 * b ≤ i ∧ i < 25 * b + 25
theorem m76 {n0 i : Nat} {k2 : Int32 → Mem → Option Mem} {k9 : Int32 → Int32 → Mem → Option Mem} {x1 x2 v : Int32} {M : Mem} (hi : i < 50) : fX12_measures_76 n0 k2 k9 x1 x2 (nI i) v M = k9 x1 (x2 + 1) (sA M 9 i v) := by
  unfold fX12_measures_76
  refine eq_f (nI_in hi (by decide)) (eq_n ?_)
  rw [nI_clamp (by omega)]
theorem m9 {n0 b a : Nat} {k2 : Int32 → Mem → Option Mem} (hb : b ≤ 1) (ha : a < 5) : ∀ (w c : Nat) (M : Mem), c ≤ 5 → 5 < w + c → gI M 34 = nI b → ∃ M', loopN (bX12_measures_9 n0 k2) (fun _ _ _ => none) w (nI a) (nI c) M = k2 (nI (a + 1)) M' ∧ OnlyA (P9 b) M M' := by
  intro w
  induction w with
  | zero => intro c M _ h; omega
  | succ w ih =>
    intro c M hc hw h34
    rw [lpS, bX12_measures_9]
    by_cases g : 5 ≤ c
    · exact ⟨M, eq_t (nI_le (a := 5) g (by omega)) (by rw [nI_1]), OnlyA.r⟩
    · have ea : fX12_at n0 (gI M 34) (nI a) (nI c) M = some (nI (25 * b + (5 * a + c)), M) := by rw [h34]; exact yat
      have key : ∀ v, ∃ M', loopN (bX12_measures_9 n0 k2) (fun _ _ _ => none) w (nI a) (nI c + 1) (sA M 9 (25 * b + (5 * a + c)) v) = k2 (nI (a + 1)) M' ∧ OnlyA (P9 b) M M' := fun v => by
        obtain ⟨M', e1, e2⟩ := ih (c + 1) (sA M 9 (25 * b + (5 * a + c)) v) (by omega) (by omega) h34
        exact ⟨M', by rw [nI_1]; exact e1, (OnlyA.r.s (by unfold P9; omega)).tr e2⟩
      have o : ¬ oob (nI (25 * b + (5 * a + c))) 50 := nI_in (by omega) (by decide)
      by_cases g1 : nI a = nI c
      · obtain ⟨M', e1, e2⟩ := key 0
        exact ⟨M', eq_f (nI_ge (b := 5) (by omega) (by decide)) (eq_b ea (eq_t g1 ((m76 (by omega)).trans e1))), e2⟩
      · by_cases g2 : gA M 8 (Int32.toNatClampNeg (nI (25 * b + (5 * a + c)))) ≤ 0
        · obtain ⟨M', e1, e2⟩ := key 100000000
          exact ⟨M', eq_f (nI_ge (b := 5) (by omega) (by decide)) (eq_b ea (eq_f g1 (eq_b ea (eq_f o (eq_t g2 ((m76 (by omega)).trans e1)))))), e2⟩
        · obtain ⟨M', e1, e2⟩ := key (gA M 8 (Int32.toNatClampNeg (nI (25 * b + (5 * a + c)))))
          exact ⟨M', eq_f (nI_ge (b := 5) (by omega) (by decide)) (eq_b ea (eq_f g1 (eq_b ea (eq_f o (eq_f g2 (eq_b ea (eq_f o ((m76 (by omega)).trans e1)))))))), e2⟩
theorem m105 {n0 b a i : Nat} {k91 : Int32 → Mem → Option Mem} {k98 : Int32 → Int32 → Mem → Option Mem} (hb : b ≤ 1) (ha : a < 5) (hi : i < 5) : ∀ (w c : Nat) (M : Mem), c ≤ 5 → 5 < w + c → gI M 34 = nI b → ∃ M', loopN (bX12_measures_105 n0 k91 k98) (fun _ _ _ _ => none) w (nI a) (nI i) (nI c) M = k98 (nI a) (nI (i + 1)) M' ∧ OnlyA (P9 b) M M' := by
  intro w
  induction w with
  | zero => intro c M _ h; omega
  | succ w ih =>
    intro c M hc hw h34
    rw [lpS, bX12_measures_105]
    by_cases g : 5 ≤ c
    · exact ⟨M, eq_t (nI_le (a := 5) g (by omega)) (by rw [nI_1]), OnlyA.r⟩
    · have ea : fX12_at n0 (gI M 34) (nI i) (nI a) M = some (nI (25 * b + (5 * i + a)), M) := by rw [h34]; exact yat
      have eb : fX12_at n0 (gI M 34) (nI a) (nI c) M = some (nI (25 * b + (5 * a + c)), M) := by rw [h34]; exact yat
      have ec : fX12_at n0 (gI M 34) (nI i) (nI c) M = some (nI (25 * b + (5 * i + c)), M) := by rw [h34]; exact yat
      have oa : ¬ oob (nI (25 * b + (5 * i + a))) 50 := nI_in (by omega) (by decide)
      have ob : ¬ oob (nI (25 * b + (5 * a + c))) 50 := nI_in (by omega) (by decide)
      have oc : ¬ oob (nI (25 * b + (5 * i + c))) 50 := nI_in (by omega) (by decide)
      have hcl : (nI (25 * b + (5 * i + c))).toNatClampNeg = 25 * b + (5 * i + c) := nI_clamp (by omega)
      by_cases g2 : gA M 9 (Int32.toNatClampNeg (nI (25 * b + (5 * i + c)))) ≤ gA M 9 (Int32.toNatClampNeg (nI (25 * b + (5 * i + a)))) + gA M 9 (Int32.toNatClampNeg (nI (25 * b + (5 * a + c))))
      · obtain ⟨M', e1, e2⟩ := ih (c + 1) M (by omega) (by omega) h34
        refine ⟨M', eq_f (nI_ge (b := 5) (by omega) (by decide)) (eq_b ea (eq_f oa (eq_b eb (eq_f ob (eq_n (eq_b ec (eq_f oc (eq_t g2 ?_)))))))), e2⟩
        unfold fX12_measures_180
        rw [nI_1]
        exact e1
      · obtain ⟨M', e1, e2⟩ := ih (c + 1) (sA M 9 (25 * b + (5 * i + c)) (gA M 9 (Int32.toNatClampNeg (nI (25 * b + (5 * i + a)))) + gA M 9 (Int32.toNatClampNeg (nI (25 * b + (5 * a + c)))))) (by omega) (by omega) h34
        refine ⟨M', eq_f (nI_ge (b := 5) (by omega) (by decide)) (eq_b ea (eq_f oa (eq_b eb (eq_f ob (eq_n (eq_b ec (eq_f oc (eq_f g2 (eq_b ec (eq_f oc ?_)))))))))), (OnlyA.r.s (by unfold P9; omega)).tr e2⟩
        unfold fX12_measures_180
        rw [nI_1]
        simp only [hcl]
        exact e1
theorem m98 {n0 b a : Nat} {k91 : Int32 → Mem → Option Mem} (hn : 1700 ≤ n0) (hb : b ≤ 1) (ha : a < 5) : ∀ (w c : Nat) (M : Mem), c ≤ 5 → 5 < w + c → gI M 34 = nI b → ∃ M', loopN (bX12_measures_98 n0 k91) (fun _ _ _ => none) w (nI a) (nI c) M = k91 (nI (a + 1)) M' ∧ OnlyA (P9 b) M M' := by
  intro w
  induction w with
  | zero => intro c M _ h; omega
  | succ w ih =>
    intro c M hc hw h34
    rw [lpS, bX12_measures_98]
    by_cases g : 5 ≤ c
    · exact ⟨M, eq_t (nI_le (a := 5) g (by omega)) (by rw [nI_1]), OnlyA.r⟩
    · obtain ⟨M1, d1, d2⟩ := m105 (n0 := n0) (k91 := k91) (k98 := loopN (bX12_measures_98 n0 k91) (fun _ _ _ => none) w) hb ha (show c < 5 by omega) n0 0 M (by omega) (by omega) h34
      obtain ⟨M', e1, e2⟩ := ih (c + 1) M1 (by omega) (by omega) (by rw [d2.1]; exact h34)
      exact ⟨M', eq_f (nI_ge (b := 5) (by omega) (by decide)) (d1.trans e1), d2.tr e2⟩
theorem m91 {n0 b : Nat} (hn : 1700 ≤ n0) (hb : b ≤ 1) : ∀ (w c : Nat) (M : Mem), c ≤ 5 → 5 < w + c → gI M 34 = nI b → ∃ M', loopN (bX12_measures_91 n0) (fun _ _ => none) w (nI c) M = some M' ∧ OnlyA (P9 b) M M' := by
  intro w
  induction w with
  | zero => intro c M _ h; omega
  | succ w ih =>
    intro c M hc hw h34
    rw [lpS, bX12_measures_91]
    by_cases g : 5 ≤ c
    · exact ⟨M, eq_t (nI_le (a := 5) g (by omega)) rfl, OnlyA.r⟩
    · obtain ⟨M1, d1, d2⟩ := m98 (n0 := n0) (k91 := loopN (bX12_measures_91 n0) (fun _ _ => none) w) hn hb (show c < 5 by omega) n0 0 M (by omega) (by omega) h34
      obtain ⟨M', e1, e2⟩ := ih (c + 1) M1 (by omega) (by omega) (by rw [d2.1]; exact h34)
      exact ⟨M', eq_f (nI_ge (b := 5) (by omega) (by decide)) (d1.trans e1), d2.tr e2⟩
theorem m2 {n0 b : Nat} (hn : 1700 ≤ n0) (hb : b ≤ 1) : ∀ (w c : Nat) (M : Mem), c ≤ 5 → 5 < w + c → gI M 34 = nI b → ∃ M', loopN (bX12_measures_2 n0) (fun _ _ => none) w (nI c) M = some M' ∧ OnlyA (P9 b) M M' := by
  intro w
  induction w with
  | zero => intro c M _ h; omega
  | succ w ih =>
    intro c M hc hw h34
    rw [lpS, bX12_measures_2]
    by_cases g : 5 ≤ c
    · obtain ⟨M', e1, e2⟩ := m91 (n0 := n0) hn hb n0 0 M (by omega) (by omega) h34
      exact ⟨M', eq_t (nI_le (a := 5) g (by omega)) e1, e2⟩
    · obtain ⟨M1, d1, d2⟩ := m9 (n0 := n0) (k2 := loopN (bX12_measures_2 n0) (fun _ _ => none) w) hb (show c < 5 by omega) n0 0 M (by omega) (by omega) h34
      obtain ⟨M', e1, e2⟩ := ih (c + 1) M1 (by omega) (by omega) (by rw [d2.1]; exact h34)
      exact ⟨M', eq_f (nI_ge (b := 5) (by omega) (by decide)) (d1.trans e1), d2.tr e2⟩
theorem measures {n0 b : Nat} {M : Mem} (hn : 1700 ≤ n0) (hb : b ≤ 1) (h34 : gI M 34 = nI b) : ∃ M', fX12_measures n0 M = some M' ∧ OnlyA (P9 b) M M' := m2 hn hb n0 0 M (by omega) (by omega) h34
end
section
/-! SUMS ON BOTH SIDES: ints against longs, within a million -/
def zI (z : Int) : Int32 := Int32.ofInt z
def zL (z : Int) : Int64 := Int64.ofInt z
theorem zI_toInt {z : Int} (h1 : -2147483648 ≤ z) (h2 : z ≤ 2147483647) : (zI z).toInt = z := Int32.toInt_ofInt_of_le (by omega) (by omega)
theorem zL_toInt {z : Int} (h1 : -9223372036854775808 ≤ z) (h2 : z ≤ 9223372036854775807) : (zL z).toInt = z := Int64.toInt_ofInt_of_le (by omega) (by omega)
theorem zI_of (x : Int32) : zI x.toInt = x := Int32.ofInt_toInt x
theorem zL_of (x : Int64) : zL x.toInt = x := Int64.ofInt_toInt x
theorem zL_lt {a b : Int} (a1 : -9223372036854775808 ≤ a) (a2 : a ≤ 9223372036854775807) (b1 : -9223372036854775808 ≤ b) (b2 : b ≤ 9223372036854775807) : zL a < zL b ↔ a < b := by rw [Int64.lt_iff_toInt_lt, zL_toInt a1 a2, zL_toInt b1 b2]
theorem zL_eq {a b : Int} (a1 : -9223372036854775808 ≤ a) (a2 : a ≤ 9223372036854775807) (b1 : -9223372036854775808 ≤ b) (b2 : b ≤ 9223372036854775807) : zL a = zL b ↔ a = b := by rw [← Int64.toInt_inj, zL_toInt a1 a2, zL_toInt b1 b2]
theorem zI_lt {a b : Int} (a1 : -2147483648 ≤ a) (a2 : a ≤ 2147483647) (b1 : -2147483648 ≤ b) (b2 : b ≤ 2147483647) : zI a < zI b ↔ a < b := by rw [Int32.lt_iff_toInt_lt, zI_toInt a1 a2, zI_toInt b1 b2]
theorem zI_le {a b : Int} (a1 : -2147483648 ≤ a) (a2 : a ≤ 2147483647) (b1 : -2147483648 ≤ b) (b2 : b ≤ 2147483647) : zI a ≤ zI b ↔ a ≤ b := by rw [Int32.le_iff_toInt_le, zI_toInt a1 a2, zI_toInt b1 b2]
theorem zI_eq {a b : Int} (a1 : -2147483648 ≤ a) (a2 : a ≤ 2147483647) (b1 : -2147483648 ≤ b) (b2 : b ≤ 2147483647) : zI a = zI b ↔ a = b := by rw [← Int32.toInt_inj, zI_toInt a1 a2, zI_toInt b1 b2]
theorem zI_long {a : Int} (a1 : -2147483648 ≤ a) (a2 : a ≤ 2147483647) : (zI a).toInt64 = zL a := by rw [← Int64.toInt_inj, Int32.toInt_toInt64, zI_toInt a1 a2, zL_toInt (by omega) (by omega)]
theorem zL_int {a : Int} (a1 : -2147483648 ≤ a) (a2 : a ≤ 2147483647) : (zL a).toInt32 = zI a := by rw [← zI_long a1 a2, Int32.toInt32_toInt64]
theorem zL_add (a b : Int) : zL a + zL b = zL (a + b) := (Int64.ofInt_add a b).symm
theorem zL_sub (a b : Int) : zL a - zL b = zL (a - b) := (Int64.ofInt_sub a b).symm
theorem zL_mul (a b : Int) : zL a * zL b = zL (a * b) := (Int64.ofInt_mul a b).symm
theorem zI_add (a b : Int) : zI a + zI b = zI (a + b) := (Int32.ofInt_add a b).symm
theorem zI_sub (a b : Int) : zI a - zI b = zI (a - b) := (Int32.ofInt_sub a b).symm
theorem zI_mul (a b : Int) : zI a * zI b = zI (a * b) := (Int32.ofInt_mul a b).symm
def lR (a : Int) : Prop := -9000000000000 ≤ a ∧ a ≤ 9000000000000
theorem lgc {a b : Int} (ha : lR a) (hb : lR b) : lg_cmp (zL a) (zL b) = if b < a then 1 else if a = b then 0 else -1 := by
  unfold lR at ha hb
  have h1 := zL_lt (a := b) (b := a) (by omega) (by omega) (by omega) (by omega)
  have h2 := zL_eq (a := a) (b := b) (by omega) (by omega) (by omega) (by omega)
  unfold lg_cmp
  by_cases g : b < a
  · rw [if_pos (h1.mpr g), if_pos g]
  · rw [if_neg (fun z => g (h1.mp z)), if_neg g]
    by_cases g2 : a = b
    · rw [if_pos (h2.mpr g2), if_pos g2]
    · rw [if_neg (fun z => g2 (h2.mp z)), if_neg g2]
theorem lgc_le {a b : Int} (ha : lR a) (hb : lR b) : lg_cmp (zL a) (zL b) ≤ 0 ↔ a ≤ b := by
  rw [lgc ha hb]
  by_cases g : b < a
  · rw [if_pos g]; exact ⟨fun z => absurd z (by decide), fun z => by omega⟩
  · rw [if_neg g]
    by_cases g2 : a = b
    · rw [if_pos g2]; exact ⟨fun _ => by omega, fun _ => by decide⟩
    · rw [if_neg g2]; exact ⟨fun _ => by omega, fun _ => by decide⟩
theorem lgc_ge {a b : Int} (ha : lR a) (hb : lR b) : 0 ≤ lg_cmp (zL a) (zL b) ↔ b ≤ a := by
  rw [lgc ha hb]
  by_cases g : b < a
  · rw [if_pos g]; exact ⟨fun _ => by omega, fun _ => by decide⟩
  · rw [if_neg g]
    by_cases g2 : a = b
    · rw [if_pos g2]; exact ⟨fun _ => by omega, fun _ => by decide⟩
    · rw [if_neg g2]; exact ⟨fun z => absurd z (by decide), fun z => by omega⟩
theorem lgc_eq {a b : Int} (ha : lR a) (hb : lR b) : lg_cmp (zL a) (zL b) = 0 ↔ a = b := by
  rw [lgc ha hb]
  by_cases g : b < a
  · rw [if_pos g]; exact ⟨fun z => absurd z (by decide), fun z => by omega⟩
  · rw [if_neg g]
    by_cases g2 : a = b
    · rw [if_pos g2]; exact ⟨fun _ => by omega, fun _ => rfl⟩
    · rw [if_neg g2]; exact ⟨fun z => absurd z (by decide), fun z => absurd z g2⟩
/-- within a million -/
def clip (a : Int) : Int := if a ≤ 1000000 then (if -1000000 ≤ a then a else -1000000) else 1000000
def mR (a : Int) : Prop := -1000000 ≤ a ∧ a ≤ 1000000
theorem clip_m (a : Int) : mR (clip a) := by
  unfold clip mR
  by_cases g : a ≤ 1000000
  · rw [if_pos g]
    by_cases g2 : -1000000 ≤ a
    · rw [if_pos g2]; exact ⟨g2, g⟩
    · rw [if_neg g2]; decide
  · rw [if_neg g]; decide
theorem clip_id {a : Int} (h : mR a) : clip a = a := by
  unfold clip
  rw [if_pos h.2, if_pos h.1]
theorem L6 : (1000000 : Int64) = zL 1000000 := by decide
theorem L6n : (-1000000 : Int64) = zL (-1000000) := by decide
theorem zl0 : (0 : Int64) = zL 0 := by decide
theorem zl1 : (1 : Int64) = zL 1 := by decide
theorem ywithin {n0 : Nat} {a : Int} {M : Mem} (ha : lR a) : fX12_within n0 (zL a) M = some (zL (clip a), M) := by
  have r1 : lR 1000000 := by unfold lR; omega
  have r2 : lR (-1000000) := by unfold lR; omega
  have c1 := lgc_le ha r1
  have c2 := lgc_ge ha r2
  unfold fX12_within clip
  rw [L6n, L6]
  by_cases g : a ≤ 1000000
  · rw [if_pos (c1.mpr g), if_pos g]
    by_cases g2 : -1000000 ≤ a
    · rw [if_pos (c2.mpr g2), if_pos g2]
    · rw [if_neg (fun z => g2 (c2.mp z)), if_neg g2]
  · rw [if_neg (fun z => g (c1.mp z)), if_neg g]
theorem xwithin {a : Int} (ha : lR a) : (lmax (-1000000) (lmin 1000000 (zL a))).toInt32 = zI (clip a) := by
  unfold lR at ha
  have c1 : zL a < zL 1000000 ↔ a < 1000000 := zL_lt (by omega) (by omega) (by omega) (by omega)
  have c2 : zL a < zL (-1000000) ↔ a < -1000000 := zL_lt (by omega) (by omega) (by omega) (by omega)
  have c3 : ¬ zL 1000000 < zL (-1000000) := by rw [zL_lt (by omega) (by omega) (by omega) (by omega)]; omega
  have e : lmax (-1000000) (lmin 1000000 (zL a)) = zL (clip a) := by
    unfold lmax lmin clip
    rw [L6n, L6]
    by_cases g : a < 1000000
    · rw [if_pos (c1.mpr g), if_pos (show a ≤ 1000000 by omega)]
      by_cases g2 : a < -1000000
      · rw [if_pos (c2.mpr g2), if_neg (by omega)]
      · rw [if_neg (fun z => g2 (c2.mp z)), if_pos (by omega)]
    · rw [if_neg (fun z => g (c1.mp z)), if_neg c3]
      by_cases g2 : a = 1000000
      · rw [if_pos (by omega), if_pos (by omega), g2]
      · rw [if_neg (by omega)]
  have m := clip_m a
  unfold mR at m
  rw [e, zL_int (by omega) (by omega)]
theorem xnn {x : Int32} : 0 ≤ x ↔ x.toBitVec.msb = false := by
  rw [Int32.le_iff_toInt_le]
  show (0 : Int) ≤ x.toBitVec.toInt ↔ _
  rw [BitVec.msb_eq_toInt]
  simp
theorem xsign {x y : Int32} : 0 ≤ x ^^^ y ↔ (0 ≤ x ↔ 0 ≤ y) := by
  rw [xnn, xnn, xnn, Int32.toBitVec_xor, BitVec.msb_xor]
  cases x.toBitVec.msb <;> cases y.toBitVec.msb <;> decide
theorem zL_div {a b : Int} (ha : mR a) (hb : mR b) : zL a / zL b = zL (a.tdiv b) := by
  unfold mR at ha hb
  exact (Int64.ofInt_tdiv (by show (-9223372036854775808 : Int) ≤ a; omega) (by show a ≤ (9223372036854775807 : Int); omega) (by show (-9223372036854775808 : Int) ≤ b; omega) (by show b ≤ (9223372036854775807 : Int); omega)).symm
theorem zI_div {a b : Int} (ha : mR a) (hb : mR b) : zI a / zI b = zI (a.tdiv b) := by
  unfold mR at ha hb
  exact (Int32.ofInt_tdiv (by show (-2147483648 : Int) ≤ a; omega) (by show a ≤ (2147483647 : Int); omega) (by show (-2147483648 : Int) ≤ b; omega) (by show b ≤ (2147483647 : Int); omega)).symm
theorem tdiv_m {a b : Int} (ha : mR a) : mR (a.tdiv b) := by
  have h := Int.natAbs_tdiv_le_natAbs a b
  unfold mR at ha ⊢
  omega
end
section
/-! FLOORS ON BOTH SIDES -/
theorem tmod_m {a b : Int} (ha : mR a) : mR (a - a.tdiv b * b) := by
  have h := Int.natAbs_tmod a b
  have h2 := Nat.mod_le a.natAbs b.natAbs
  have h3 := Int.tmod_def a b
  rw [Int.mul_comm] at h3
  unfold mR at ha ⊢
  rw [h3] at h
  omega
abbrev sSame (a b : Int) : Prop := a - a.tdiv b * b = 0 ∨ (0 ≤ a ↔ 0 ≤ b)
def flr (a b : Int) : Int := if b = 0 then 0 else if sSame a b then a.tdiv b else a.tdiv b - 1
theorem flr_l {a b : Int} (ha : mR a) : lR (flr a b) := by
  have h := tdiv_m (b := b) ha
  unfold flr lR
  unfold mR at h
  split
  · omega
  · split <;> omega
theorem mR.l {a : Int} (h : mR a) : lR a := by unfold mR at h; unfold lR; omega
theorem yfloor {n0 : Nat} {a b : Int} {M : Mem} (ha : mR a) (hb : mR b) : fX12_floor n0 (zL a) (zL b) M = some (zL (flr a b), M) := by
  have r0 : lR 0 := by unfold lR; omega
  have cb0 := lgc_eq hb.l r0
  have cb := lgc_ge hb.l r0
  have ca := lgc_ge ha.l r0
  have er : rem64 (zL a) (zL b) = zL (a - a.tdiv b * b) := by
    unfold rem64
    rw [zL_div ha hb, zL_mul, zL_sub]
  have cr := lgc_eq (tmod_m (b := b) ha).l r0
  have e0 : zL b = 0 ↔ b = 0 := by
    rw [zl0]
    have := hb.l
    unfold lR at this
    exact zL_eq (by omega) (by omega) (by omega) (by omega)
  unfold fX12_floor flr
  rw [er, zL_div ha hb]
  by_cases g : b = 0
  · rw [if_pos g, if_pos (by rw [zl0]; exact cb0.mpr g), ← zl0]
  · have gn : ¬ zL b = 0 := fun z => g (e0.mp z)
    rw [if_neg g, if_neg (by rw [zl0]; exact fun z => g (cb0.mp z))]
    refine eq_f gn (eq_n (eq_f gn ?_))
    rw [zl0]
    by_cases g1 : a - a.tdiv b * b = 0
    · rw [if_pos (show sSame a b from Or.inl g1)]
      exact eq_t (cr.mpr g1) rfl
    · refine eq_f (fun z => g1 (cr.mp z)) ?_
      unfold fX12_floor_32 fX12_floor_43
      rw [zl0]
      by_cases g2 : 0 ≤ a
      · refine eq_t (ca.mpr g2) ?_
        by_cases g3 : 0 ≤ b
        · rw [if_pos (show sSame a b from Or.inr ⟨fun _ => g3, fun _ => g2⟩)]
          exact eq_t (cb.mpr g3) (eq_t rfl rfl)
        · rw [if_neg (show ¬ sSame a b from fun z => z.elim g1 (fun y => g3 (y.mp g2)))]
          refine eq_f (fun z => g3 (cb.mp z)) (eq_f (by decide) ?_)
          rw [zl1, zL_sub]
      · refine eq_f (fun z => g2 (ca.mp z)) ?_
        by_cases g3 : 0 ≤ b
        · rw [if_neg (show ¬ sSame a b from fun z => z.elim g1 (fun y => g2 (y.mpr g3)))]
          refine eq_t (cb.mpr g3) (eq_f (by decide) ?_)
          rw [zl1, zL_sub]
        · rw [if_pos (show sSame a b from Or.inr ⟨fun h => absurd h g2, fun h => absurd h g3⟩)]
          exact eq_f (fun z => g3 (cb.mp z)) (eq_t rfl rfl)
theorem zi0 : (0 : Int32) = zI 0 := by decide
theorem zi1 : (1 : Int32) = zI 1 := by decide
theorem mR.i {a : Int} (h : mR a) : -2147483648 ≤ a ∧ a ≤ 2147483647 := by unfold mR at h; omega
theorem zI_nn {a : Int} (h : mR a) : 0 ≤ zI a ↔ 0 ≤ a := by
  rw [zi0]
  exact zI_le (by omega) (by omega) h.i.1 h.i.2
theorem zI_z {a : Int} (h : mR a) : zI a = 0 ↔ a = 0 := by
  rw [zi0]
  exact zI_eq h.i.1 h.i.2 (by omega) (by omega)
theorem xfloorDiv {n0 : Nat} {a b : Int} {M : Mem} (ha : mR a) (hb : mR b) (h0 : ¬ b = 0) : fJ9_floorDiv_7cf53 n0 (zI a) (zI b) M = some (zI (flr a b), M) := by
  have ct : zI a / zI b * zI b = zI a ↔ a - a.tdiv b * b = 0 := by
    have m := tmod_m (b := b) ha
    have i := ha.i
    unfold mR at m ha
    rw [zI_div ha hb, zI_mul, zI_eq (by omega) (by omega) i.1 i.2]
    omega
  unfold fJ9_floorDiv_7cf53 flr
  refine eq_f (fun z => h0 ((zI_z hb).mp z)) (eq_n ?_)
  rw [if_neg h0]
  by_cases g : 0 ≤ zI a ^^^ zI b
  · rw [if_pos (show sSame a b from Or.inr (by rw [← zI_nn ha, ← zI_nn hb]; exact xsign.mp g))]
    refine eq_t g ?_
    rw [zI_div ha hb]
  · refine eq_f g ?_
    by_cases g1 : a - a.tdiv b * b = 0
    · rw [if_pos (show sSame a b from Or.inl g1)]
      refine eq_t (ct.mpr g1) ?_
      rw [zI_div ha hb]
    · rw [if_neg (show ¬ sSame a b from fun z => z.elim g1 (fun y => g (xsign.mpr (by rw [zI_nn ha, zI_nn hb]; exact y))))]
      refine eq_f (fun z => g1 (ct.mp z)) ?_
      rw [zI_div ha hb, zi1, zI_sub]
theorem xfloorMod {n0 : Nat} {a b : Int} {M : Mem} (ha : mR a) (hb : mR b) (h0 : ¬ b = 0) : fJ9_floorMod_7cf53 n0 (zI a) (zI b) M = some (zI (a - b * flr a b), M) := by
  have er : rem32 (zI a) (zI b) = zI (a - a.tdiv b * b) := by
    unfold rem32
    rw [zI_div ha hb, zI_mul, zI_sub]
  have m := tmod_m (b := b) ha
  unfold fJ9_floorMod_7cf53 flr
  rw [er]
  refine eq_f (fun z => h0 ((zI_z hb).mp z)) (eq_n ?_)
  rw [if_neg h0]
  by_cases g : 0 ≤ zI a ^^^ zI b
  · rw [if_pos (show sSame a b from Or.inr (by rw [← zI_nn ha, ← zI_nn hb]; exact xsign.mp g)), Int.mul_comm]
    exact eq_t g rfl
  · refine eq_f g ?_
    by_cases g1 : a - a.tdiv b * b = 0
    · rw [if_pos (show sSame a b from Or.inl g1), Int.mul_comm b]
      exact eq_t ((zI_z m).mpr g1) rfl
    · rw [if_neg (show ¬ sSame a b from fun z => z.elim g1 (fun y => g (xsign.mpr (by rw [zI_nn ha, zI_nn hb]; exact y))))]
      refine eq_f (fun z => g1 ((zI_z m).mp z)) ?_
      rw [zI_add, Int.mul_sub, Int.mul_comm b (a.tdiv b), Int.mul_one, show a - a.tdiv b * b + b = a - (a.tdiv b * b - b) by omega]
end
section
/-! TWO VALUES JOINED, ON BOTH SIDES -/
theorem mul_l {a b : Int} (ha : mR a) (hb : mR b) : lR (a * b) := by
  have h := Int.natAbs_mul a b
  have h2 : a.natAbs * b.natAbs ≤ 1000000 * 1000000 := Nat.mul_le_mul (by unfold mR at ha; omega) (by unfold mR at hb; omega)
  unfold lR
  omega
theorem flm_l {a b : Int} (ha : mR a) (hb : mR b) : lR (a - b * flr a b) := by
  have m := tmod_m (b := b) ha
  unfold mR at m ha hb
  unfold lR flr
  by_cases g : b = 0
  · rw [if_pos g]; omega
  · rw [if_neg g]
    by_cases g1 : sSame a b
    · rw [if_pos g1, Int.mul_comm b]; omega
    · rw [if_neg g1, Int.mul_sub, Int.mul_comm b (a.tdiv b), Int.mul_one]; omega
def opZ (c : Int32) (a b : Int) : Int :=
  if c = 31 then clip (a + b) else if c = 32 then clip (a - b) else if c = 33 then clip (a * b) else if c = 34 then clip (flr a b) else if c = 35 then (if b = 0 then 0 else clip (a - b * flr a b)) else if c = 36 then (if b ≤ a then b else a) else if c = 37 then (if a ≤ b then b else a) else if c = 38 then (if b ≤ a then 0 else 1) else if c = 39 then (if a ≤ b then 0 else 1) else if c = 40 then (if a = b then 1 else 0) else if c = 41 then (if a = 0 then 0 else b) else (if a = 0 then b else 1)
theorem y31 {n0 : Nat} {a b : Int} {M : Mem} (ha : mR a) (hb : mR b) : fX12_two n0 31 (zL a) (zL b) M = some (zL (opZ 31 a b), M) := by
  unfold fX12_two
  refine eq_t rfl (eq_b (z := (zL (clip (a + b)), M)) ?_ rfl)
  rw [zL_add]
  exact ywithin (by unfold mR at ha hb; unfold lR; omega)
theorem y32 {n0 : Nat} {a b : Int} {M : Mem} (ha : mR a) (hb : mR b) : fX12_two n0 32 (zL a) (zL b) M = some (zL (opZ 32 a b), M) := by
  unfold fX12_two
  refine eq_f (by decide) (eq_t rfl (eq_b (z := (zL (clip (a - b)), M)) ?_ rfl))
  rw [zL_sub]
  exact ywithin (by unfold mR at ha hb; unfold lR; omega)
theorem y33 {n0 : Nat} {a b : Int} {M : Mem} (ha : mR a) (hb : mR b) : fX12_two n0 33 (zL a) (zL b) M = some (zL (opZ 33 a b), M) := by
  unfold fX12_two
  refine eq_f (by decide) (eq_f (by decide) (eq_t rfl (eq_b (z := (zL (clip (a * b)), M)) ?_ rfl)))
  rw [zL_mul]
  exact ywithin (mul_l ha hb)
theorem y34 {n0 : Nat} {a b : Int} {M : Mem} (ha : mR a) (hb : mR b) : fX12_two n0 34 (zL a) (zL b) M = some (zL (opZ 34 a b), M) := by
  unfold fX12_two
  exact eq_f (by decide) (eq_f (by decide) (eq_f (by decide) (eq_t rfl (eq_b (yfloor ha hb) (eq_b (ywithin (flr_l ha)) rfl)))))
theorem y35 {n0 : Nat} {a b : Int} {M : Mem} (ha : mR a) (hb : mR b) : fX12_two n0 35 (zL a) (zL b) M = some (zL (opZ 35 a b), M) := by
  have r0 : lR 0 := by unfold lR; omega
  have cb0 := lgc_eq hb.l r0
  have eo : opZ 35 a b = if b = 0 then 0 else clip (a - b * flr a b) := rfl
  rw [eo]
  unfold fX12_two
  refine eq_f (by decide) (eq_f (by decide) (eq_f (by decide) (eq_f (by decide) (eq_t rfl ?_))))
  rw [zl0]
  by_cases g : b = 0
  · rw [if_pos (cb0.mpr g), if_pos g]
  · rw [if_neg (fun z => g (cb0.mp z)), if_neg g]
    refine eq_b (yfloor ha hb) (eq_b (z := (zL (clip (a - b * flr a b)), M)) ?_ rfl)
    dsimp only
    rw [zL_mul, zL_sub]
    exact ywithin (flm_l ha hb)
theorem y36 {n0 : Nat} {a b : Int} {M : Mem} (ha : mR a) (hb : mR b) : fX12_two n0 36 (zL a) (zL b) M = some (zL (opZ 36 a b), M) := by
  have c := lgc_ge ha.l hb.l
  have eo : opZ 36 a b = if b ≤ a then b else a := rfl
  rw [eo]
  unfold fX12_two
  refine eq_f (by decide) (eq_f (by decide) (eq_f (by decide) (eq_f (by decide) (eq_f (by decide) (eq_t rfl ?_)))))
  by_cases g : b ≤ a
  · rw [if_pos (c.mpr g), if_pos g]
  · rw [if_neg (fun z => g (c.mp z)), if_neg g]
theorem y37 {n0 : Nat} {a b : Int} {M : Mem} (ha : mR a) (hb : mR b) : fX12_two n0 37 (zL a) (zL b) M = some (zL (opZ 37 a b), M) := by
  have c := lgc_le ha.l hb.l
  have eo : opZ 37 a b = if a ≤ b then b else a := rfl
  rw [eo]
  unfold fX12_two
  refine eq_f (by decide) (eq_f (by decide) (eq_f (by decide) (eq_f (by decide) (eq_f (by decide) (eq_f (by decide) (eq_t rfl ?_))))))
  by_cases g : a ≤ b
  · rw [if_pos (c.mpr g), if_pos g]
  · rw [if_neg (fun z => g (c.mp z)), if_neg g]
theorem y38 {n0 : Nat} {a b : Int} {M : Mem} (ha : mR a) (hb : mR b) : fX12_two n0 38 (zL a) (zL b) M = some (zL (opZ 38 a b), M) := by
  have c := lgc_ge ha.l hb.l
  have eo : opZ 38 a b = if b ≤ a then 0 else 1 := rfl
  rw [eo]
  unfold fX12_two
  refine eq_f (by decide) (eq_f (by decide) (eq_f (by decide) (eq_f (by decide) (eq_f (by decide) (eq_f (by decide) (eq_f (by decide) (eq_t rfl ?_)))))))
  by_cases g : b ≤ a
  · rw [if_pos (c.mpr g), if_pos g, ← zl0]
  · rw [if_neg (fun z => g (c.mp z)), if_neg g, ← zl1]
theorem y39 {n0 : Nat} {a b : Int} {M : Mem} (ha : mR a) (hb : mR b) : fX12_two n0 39 (zL a) (zL b) M = some (zL (opZ 39 a b), M) := by
  have c := lgc_le ha.l hb.l
  have eo : opZ 39 a b = if a ≤ b then 0 else 1 := rfl
  rw [eo]
  unfold fX12_two
  refine eq_f (by decide) (eq_f (by decide) (eq_f (by decide) (eq_f (by decide) (eq_f (by decide) (eq_f (by decide) (eq_f (by decide) (eq_f (by decide) (eq_t rfl ?_))))))))
  by_cases g : a ≤ b
  · rw [if_pos (c.mpr g), if_pos g, ← zl0]
  · rw [if_neg (fun z => g (c.mp z)), if_neg g, ← zl1]
theorem y40 {n0 : Nat} {a b : Int} {M : Mem} (ha : mR a) (hb : mR b) : fX12_two n0 40 (zL a) (zL b) M = some (zL (opZ 40 a b), M) := by
  have c := lgc_eq ha.l hb.l
  have eo : opZ 40 a b = if a = b then 1 else 0 := rfl
  rw [eo]
  unfold fX12_two
  refine eq_f (by decide) (eq_f (by decide) (eq_f (by decide) (eq_f (by decide) (eq_f (by decide) (eq_f (by decide) (eq_f (by decide) (eq_f (by decide) (eq_f (by decide) (eq_t rfl ?_)))))))))
  by_cases g : a = b
  · rw [if_pos (c.mpr g), if_pos g, ← zl1]
  · rw [if_neg (fun z => g (c.mp z)), if_neg g, ← zl0]
def bR (a : Int) : Prop := a = 0 ∨ a = 1
theorem bR.m {a : Int} (h : bR a) : mR a := by unfold bR at h; unfold mR; omega
theorem y41 {n0 : Nat} {a b : Int} {M : Mem} (ha : bR a) (hb : bR b) : fX12_two n0 41 (zL a) (zL b) M = some (zL (opZ 41 a b), M) := by
  rcases ha with g | g <;> rcases hb with g2 | g2 <;> subst g <;> subst g2 <;> rfl
theorem y42 {n0 : Nat} {a b : Int} {M : Mem} (ha : bR a) (hb : bR b) : fX12_two n0 42 (zL a) (zL b) M = some (zL (opZ 42 a b), M) := by
  rcases ha with g | g <;> rcases hb with g2 | g2 <;> subst g <;> subst g2 <;> rfl
end
section
/-! TWO VALUES JOINED BY THE CLASS -/
def joinT (n0 : Nat) (x1 x3_39 x4_46 x5_56 : Int32) (M30 : Mem) : Option Mem :=
  if x1 = (-19 : Int32) then
    bnd ((x4_46 ||| x5_56)).toInt64 fun y6_327 =>
    fX1_join_332 n0 x3_39 y6_327 M30
  else
  if x1 = (-18 : Int32) then
    bnd ((x4_46 &&& x5_56)).toInt64 fun y6_316 =>
    fX1_join_332 n0 x3_39 y6_316 M30
  else
  if x1 = (-17 : Int32) then
    if x4_46 = x5_56 then
      fX1_join_305 n0 x3_39 (1 : Int64) M30
    else
      fX1_join_305 n0 x3_39 (0 : Int64) M30
  else
  if x1 = (-16 : Int32) then
    if x4_46 ≤ x5_56 then
      fX1_join_288 n0 x3_39 (0 : Int64) M30
    else
      fX1_join_288 n0 x3_39 (1 : Int64) M30
  else
  if x1 = (-15 : Int32) then
    if x5_56 ≤ x4_46 then
      fX1_join_271 n0 x3_39 (0 : Int64) M30
    else
      fX1_join_271 n0 x3_39 (1 : Int64) M30
  else
  if x1 = (-14 : Int32) then
    if x4_46 = 0 then
      if oob (x3_39 + (2 : Int32)) 64 then none else
      fX1_join_254 n0 x3_39 ((gA M30 9 (Int32.toNatClampNeg (x3_39 + (2 : Int32))))).toInt64 M30
    else
      fX1_join_254 n0 x3_39 (x5_56).toInt64 M30
  else
  if x1 = (-13 : Int32) then
    bnd ((imax x4_46 x5_56)).toInt64 fun y6_229 =>
    fX1_join_332 n0 x3_39 y6_229 M30
  else
  if x1 = (-12 : Int32) then
    bnd ((imin x4_46 x5_56)).toInt64 fun y6_216 =>
    fX1_join_332 n0 x3_39 y6_216 M30
  else
  if x1 = (-11 : Int32) then
    if x5_56 = 0 then
      fX1_join_203 n0 x3_39 (0 : Int64) M30
    else
      (fJ9_floorMod_7cf53 n0 x4_46 x5_56 M30).bind fun z199 =>
      fX1_join_203 n0 x3_39 (z199.1).toInt64 z199.2
  else
  if x1 = (-10 : Int32) then
    if x5_56 = 0 then
      fX1_join_181 n0 x3_39 (0 : Int64) M30
    else
      (fJ9_floorDiv_7cf53 n0 x4_46 x5_56 M30).bind fun z177 =>
      fX1_join_181 n0 x3_39 (z177.1).toInt64 z177.2
  else
  if x1 = (-9 : Int32) then
    bnd ((x4_46).toInt64 * (x5_56).toInt64) fun y6_159 =>
    fX1_join_332 n0 x3_39 y6_159 M30
  else
  if x1 = (-8 : Int32) then
    bnd ((x4_46).toInt64 - (x5_56).toInt64) fun y6_147 =>
    fX1_join_332 n0 x3_39 y6_147 M30
  else
  if x1 = (-7 : Int32) then
    bnd ((x4_46).toInt64 + (x5_56).toInt64) fun y6_135 =>
    fX1_join_332 n0 x3_39 y6_135 M30
  else
  fX1_join_332 n0 x3_39 (0 : Int64) M30
theorem eq_e {α β : Type} {v v' : α} {k : α → Option β} {r : Option β} (e : v = v') (h : k v' = r) : bnd v k = r := by subst e; exact h
theorem nIs (k : Nat) : nI (k + 1) - 1 = nI k := by
  rw [← nI_1]
  grind
theorem xjoin {n0 k : Nat} {x1 : Int32} {M : Mem} (hk : k + 1 < 64) (h9 : gI M 903 = nI (k + 2)) (hx : ¬ x1 = -14) : fX1_join n0 x1 M = joinT n0 x1 (nI k) (gA M 9 k) (gA M 9 (k + 1)) (sI M 903 (nI (k + 1))) := by
  have c0 : (nI k).toNatClampNeg = k := nI_clamp (by omega)
  have c1 : (nI (k + 1)).toNatClampNeg = k + 1 := nI_clamp (by omega)
  have o0 : ¬ oob (nI k) 64 := nI_in (by omega) (by decide)
  have o1 : ¬ oob (nI k + 1) 64 := by rw [nI_1]; exact nI_in (by omega) (by decide)
  have e1 : gI M 903 - ((2 : Int32) - 1) = nI (k + 1) := by rw [h9]; exact nIs (k + 1)
  unfold fX1_join fX1_join_11
  refine eq_f hx (eq_t (by rw [h9]; exact nI_le (a := 2) (by omega) (by omega)) (eq_e (v' := sI M 903 (nI (k + 1))) (by rw [e1]) (eq_e (v' := nI k) (by rw [gI_at]; exact nIs k) (eq_f o0 (eq_e (v' := gA M 9 k) (by rw [c0]; rfl) (eq_f o1 (eq_e (v' := gA M 9 (k + 1)) (by rw [nI_1, c1]; rfl) ?_)))))))
  rfl
theorem xj332 {n0 k : Nat} {v : Int} {M : Mem} (hk : k < 64) (hv : lR v) : fX1_join_332 n0 (nI k) (zL v) M = some (sA M 9 k (zI (clip v))) := by
  unfold fX1_join_332
  refine eq_f (nI_in (by omega) (by decide)) ?_
  rw [xwithin hv, nI_clamp (by omega)]
end
section
/-! EVERY WAY OF JOINING, THE CLASS AGAINST THE REFERENCE -/
theorem xjz {n0 k : Nat} {v : Int} {y : Int64} {M : Mem} (hk : k < 64) (e : y = zL v) (hv : mR v) : fX1_join_332 n0 (nI k) y M = some (sA M 9 k (zI v)) := by
  rw [e, xj332 hk hv.l, clip_id hv]
theorem xjl {n0 k : Nat} {v : Int} {y : Int64} {M : Mem} (hk : k < 64) (e : y = zL v) (hv : lR v) : fX1_join_332 n0 (nI k) y M = some (sA M 9 k (zI (clip v))) := by
  rw [e, xj332 hk hv]
theorem zIL {a : Int} (h : mR a) : (zI a).toInt64 = zL a := zI_long h.i.1 h.i.2
theorem m0 : mR 0 := by unfold mR; omega
theorem m1 : mR 1 := by unfold mR; omega
theorem x31 {n0 k : Nat} {a b : Int} {M : Mem} (hk : k < 64) (ha : mR a) (hb : mR b) : joinT n0 (-7) (nI k) (zI a) (zI b) M = some (sA M 9 k (zI (opZ 31 a b))) := by
  unfold joinT
  refine (eq_f (by decide) (eq_f (by decide) (eq_f (by decide) (eq_f (by decide) (eq_f (by decide) (eq_f (by decide) (eq_f (by decide) (eq_f (by decide) (eq_f (by decide) (eq_f (by decide) (eq_f (by decide) (eq_f (by decide) (eq_t rfl ?_)))))))))))))
  exact eq_n (xjl (v := a + b) hk (by rw [zIL ha, zIL hb, zL_add]) (by unfold mR at ha hb; unfold lR; omega))
theorem x32 {n0 k : Nat} {a b : Int} {M : Mem} (hk : k < 64) (ha : mR a) (hb : mR b) : joinT n0 (-8) (nI k) (zI a) (zI b) M = some (sA M 9 k (zI (opZ 32 a b))) := by
  unfold joinT
  refine (eq_f (by decide) (eq_f (by decide) (eq_f (by decide) (eq_f (by decide) (eq_f (by decide) (eq_f (by decide) (eq_f (by decide) (eq_f (by decide) (eq_f (by decide) (eq_f (by decide) (eq_f (by decide) (eq_t rfl ?_))))))))))))
  exact eq_n (xjl (v := a - b) hk (by rw [zIL ha, zIL hb, zL_sub]) (by unfold mR at ha hb; unfold lR; omega))
theorem x33 {n0 k : Nat} {a b : Int} {M : Mem} (hk : k < 64) (ha : mR a) (hb : mR b) : joinT n0 (-9) (nI k) (zI a) (zI b) M = some (sA M 9 k (zI (opZ 33 a b))) := by
  unfold joinT
  refine (eq_f (by decide) (eq_f (by decide) (eq_f (by decide) (eq_f (by decide) (eq_f (by decide) (eq_f (by decide) (eq_f (by decide) (eq_f (by decide) (eq_f (by decide) (eq_f (by decide) (eq_t rfl ?_)))))))))))
  exact eq_n (xjl (v := a * b) hk (by rw [zIL ha, zIL hb, zL_mul]) (mul_l ha hb))
theorem x34 {n0 k : Nat} {a b : Int} {M : Mem} (hk : k < 64) (ha : mR a) (hb : mR b) : joinT n0 (-10) (nI k) (zI a) (zI b) M = some (sA M 9 k (zI (opZ 34 a b))) := by
  have eo : opZ 34 a b = clip (flr a b) := rfl
  rw [eo]
  unfold joinT
  refine (eq_f (by decide) (eq_f (by decide) (eq_f (by decide) (eq_f (by decide) (eq_f (by decide) (eq_f (by decide) (eq_f (by decide) (eq_f (by decide) (eq_f (by decide) (eq_t rfl ?_))))))))))
  by_cases g : b = 0
  · have e : flr a b = 0 := by unfold flr; rw [if_pos g]
    rw [e, clip_id m0]
    exact eq_t ((zI_z hb).mpr g) (xjz hk zl0 m0)
  · have h := tdiv_m (b := b) ha
    refine eq_f (fun z => g ((zI_z hb).mp z)) (eq_b (xfloorDiv ha hb g) ?_)
    have h2 : -2147483648 ≤ flr a b ∧ flr a b ≤ 2147483647 := by
      unfold flr; unfold mR at h; rw [if_neg g]
      split <;> omega
    exact xjl hk (zI_long h2.1 h2.2) (flr_l ha)
theorem x35 {n0 k : Nat} {a b : Int} {M : Mem} (hk : k < 64) (ha : mR a) (hb : mR b) : joinT n0 (-11) (nI k) (zI a) (zI b) M = some (sA M 9 k (zI (opZ 35 a b))) := by
  have eo : opZ 35 a b = if b = 0 then 0 else clip (a - b * flr a b) := rfl
  rw [eo]
  unfold joinT
  refine (eq_f (by decide) (eq_f (by decide) (eq_f (by decide) (eq_f (by decide) (eq_f (by decide) (eq_f (by decide) (eq_f (by decide) (eq_f (by decide) (eq_t rfl ?_)))))))))
  by_cases g : b = 0
  · rw [if_pos g]
    exact eq_t ((zI_z hb).mpr g) (xjz hk zl0 m0)
  · rw [if_neg g]
    refine eq_f (fun z => g ((zI_z hb).mp z)) (eq_b (xfloorMod ha hb g) ?_)
    have h2 : -2147483648 ≤ a - b * flr a b ∧ a - b * flr a b ≤ 2147483647 := by
      have m := tmod_m (b := b) ha
      unfold mR at m hb
      unfold flr
      rw [if_neg g]
      by_cases g1 : sSame a b
      · rw [if_pos g1, Int.mul_comm b]; omega
      · rw [if_neg g1, Int.mul_sub, Int.mul_comm b (a.tdiv b), Int.mul_one]; omega
    exact xjl hk (zI_long h2.1 h2.2) (flm_l ha hb)
theorem x36 {n0 k : Nat} {a b : Int} {M : Mem} (hk : k < 64) (ha : mR a) (hb : mR b) : joinT n0 (-12) (nI k) (zI a) (zI b) M = some (sA M 9 k (zI (opZ 36 a b))) := by
  have c := zI_lt (a := b) (b := a) hb.i.1 hb.i.2 ha.i.1 ha.i.2
  have eo : opZ 36 a b = if b ≤ a then b else a := rfl
  rw [eo]
  unfold joinT
  refine (eq_f (by decide) (eq_f (by decide) (eq_f (by decide) (eq_f (by decide) (eq_f (by decide) (eq_f (by decide) (eq_f (by decide) (eq_t rfl ?_))))))))
  unfold imin
  by_cases g : b < a
  · rw [if_pos (c.mpr g), if_pos (show b ≤ a by omega)]
    exact eq_n (xjz hk (zIL hb) hb)
  · rw [if_neg (fun z => g (c.mp z))]
    by_cases g2 : b ≤ a
    · rw [if_pos g2, show b = a by omega]
      exact eq_n (xjz hk (zIL ha) ha)
    · rw [if_neg g2]
      exact eq_n (xjz hk (zIL ha) ha)
theorem x37 {n0 k : Nat} {a b : Int} {M : Mem} (hk : k < 64) (ha : mR a) (hb : mR b) : joinT n0 (-13) (nI k) (zI a) (zI b) M = some (sA M 9 k (zI (opZ 37 a b))) := by
  have c := zI_lt (a := a) (b := b) ha.i.1 ha.i.2 hb.i.1 hb.i.2
  have eo : opZ 37 a b = if a ≤ b then b else a := rfl
  rw [eo]
  unfold joinT
  refine (eq_f (by decide) (eq_f (by decide) (eq_f (by decide) (eq_f (by decide) (eq_f (by decide) (eq_f (by decide) (eq_t rfl ?_)))))))
  unfold imax
  by_cases g : a < b
  · rw [if_pos (c.mpr g), if_pos (show a ≤ b by omega)]
    exact eq_n (xjz hk (zIL hb) hb)
  · rw [if_neg (fun z => g (c.mp z))]
    by_cases g2 : a ≤ b
    · rw [if_pos g2, show b = a by omega]
      exact eq_n (xjz hk (zIL ha) ha)
    · rw [if_neg g2]
      exact eq_n (xjz hk (zIL ha) ha)
theorem x38 {n0 k : Nat} {a b : Int} {M : Mem} (hk : k < 64) (ha : mR a) (hb : mR b) : joinT n0 (-15) (nI k) (zI a) (zI b) M = some (sA M 9 k (zI (opZ 38 a b))) := by
  have c := zI_le (a := b) (b := a) hb.i.1 hb.i.2 ha.i.1 ha.i.2
  have eo : opZ 38 a b = if b ≤ a then 0 else 1 := rfl
  rw [eo]
  unfold joinT
  refine (eq_f (by decide) (eq_f (by decide) (eq_f (by decide) (eq_f (by decide) (eq_t rfl ?_)))))
  by_cases g : b ≤ a
  · rw [if_pos g]; exact eq_t (c.mpr g) (xjz hk zl0 m0)
  · rw [if_neg g]; exact eq_f (fun z => g (c.mp z)) (xjz hk zl1 m1)
theorem x39 {n0 k : Nat} {a b : Int} {M : Mem} (hk : k < 64) (ha : mR a) (hb : mR b) : joinT n0 (-16) (nI k) (zI a) (zI b) M = some (sA M 9 k (zI (opZ 39 a b))) := by
  have c := zI_le (a := a) (b := b) ha.i.1 ha.i.2 hb.i.1 hb.i.2
  have eo : opZ 39 a b = if a ≤ b then 0 else 1 := rfl
  rw [eo]
  unfold joinT
  refine (eq_f (by decide) (eq_f (by decide) (eq_f (by decide) (eq_t rfl ?_))))
  by_cases g : a ≤ b
  · rw [if_pos g]; exact eq_t (c.mpr g) (xjz hk zl0 m0)
  · rw [if_neg g]; exact eq_f (fun z => g (c.mp z)) (xjz hk zl1 m1)
theorem x40 {n0 k : Nat} {a b : Int} {M : Mem} (hk : k < 64) (ha : mR a) (hb : mR b) : joinT n0 (-17) (nI k) (zI a) (zI b) M = some (sA M 9 k (zI (opZ 40 a b))) := by
  have c := zI_eq (a := a) (b := b) ha.i.1 ha.i.2 hb.i.1 hb.i.2
  have eo : opZ 40 a b = if a = b then 1 else 0 := rfl
  rw [eo]
  unfold joinT
  refine (eq_f (by decide) (eq_f (by decide) (eq_t rfl ?_)))
  by_cases g : a = b
  · rw [if_pos g]; exact eq_t (c.mpr g) (xjz hk zl1 m1)
  · rw [if_neg g]; exact eq_f (fun z => g (c.mp z)) (xjz hk zl0 m0)
theorem x41 {n0 k : Nat} {a b : Int} {M : Mem} (hk : k < 64) (ha : bR a) (hb : bR b) : joinT n0 (-18) (nI k) (zI a) (zI b) M = some (sA M 9 k (zI (opZ 41 a b))) := by
  unfold joinT
  refine (eq_f (by decide) (eq_t rfl ?_))
  rcases ha with g | g <;> rcases hb with g2 | g2 <;> subst g <;> subst g2
  · exact eq_n (xjz hk (by decide) m0)
  · exact eq_n (xjz hk (by decide) m0)
  · exact eq_n (xjz hk (by decide) m0)
  · exact eq_n (xjz hk (by decide) m1)
theorem x42 {n0 k : Nat} {a b : Int} {M : Mem} (hk : k < 64) (ha : bR a) (hb : bR b) : joinT n0 (-19) (nI k) (zI a) (zI b) M = some (sA M 9 k (zI (opZ 42 a b))) := by
  unfold joinT
  refine (eq_t rfl ?_)
  rcases ha with g | g <;> rcases hb with g2 | g2 <;> subst g <;> subst g2
  · exact eq_n (xjz hk (by decide) m0)
  · exact eq_n (xjz hk (by decide) m1)
  · exact eq_n (xjz hk (by decide) m1)
  · exact eq_n (xjz hk (by decide) m1)
end
section
/-! ONE STEP OF A FORMULA'S VALUE, ON EACH SIDE -/
abbrev vL (n0 q1 : Nat) : Nat → Int32 → Mem → Option (Int32 × Mem) := loopN (bX1_valueOf_124 n0 q1) (fun _ _ => none)
abbrev rL (n0 : Nat) : Nat → Int32 → Int32 → Int32 → Mem → Option (Int64 × Mem) := loopN (bX12_reckons_25 n0) (fun _ _ _ _ => none)
theorem x192 {n0 q1 k : Nat} {kk : Int32 → Mem → Option (Int32 × Mem)} {x3 v : Int32} {M : Mem} (hk : k < 64) (h9 : gI M 903 = nI k) : fX1_valueOf_192 n0 q1 kk x3 (gI M 903) v M = kk (x3 + 1) (sI (sA M 9 k v) 903 (nI (k + 1))) := by
  unfold fX1_valueOf_192 fX1_valueOf_203
  rw [h9]
  refine eq_f (nI_in hk (by decide)) (eq_n ?_)
  rw [nI_clamp (by omega), gI_sA, h9, nI_1]
theorem xlit {n0 q1 k j w : Nat} {v : Int32} {M : Mem} (hk : k < 64) (h9 : gI M 903 = nI k) (hj : j < 1600) (hl : ¬ gI M (128 * q1 + 1) ≤ nI j) (hv : gA M (q1 + 1) j = v) (h0 : 0 ≤ v) : vL n0 q1 (w + 1) (nI j) M = vL n0 q1 w (nI (j + 1)) (sI (sA M 9 k v) 903 (nI (k + 1))) := by
  have c : (nI j).toNatClampNeg = j := nI_clamp (by omega)
  have k64 : ¬ (64 : Int32) ≤ gI M 903 := by rw [h9]; exact nI_ge (b := 64) (by omega) (by decide)
  unfold vL
  rw [lpS, bX1_valueOf_124]
  refine eq_f hl (eq_f (nI_in hj (by decide)) (eq_e (v' := v) (by rw [c]; exact hv) (eq_t (by grind) (eq_f k64 (eq_f (by grind) ?_)))))
  rw [x192 hk h9, nI_1]
theorem xfact {n0 q1 k j w s : Nat} {M : Mem} (hk : k < 64) (h9 : gI M 903 = nI k) (hj : j < 1600) (hl : ¬ gI M (128 * q1 + 1) ≤ nI j) (hs : 1 ≤ s ∧ s ≤ 6) (hv : gA M (q1 + 1) j = - nI s) : vL n0 q1 (w + 1) (nI j) M = vL n0 q1 w (nI (j + 1)) (sI (sA M 9 k (gA M 8 (s - 1))) 903 (nI (k + 1))) := by
  have c : (nI j).toNatClampNeg = j := nI_clamp (by omega)
  have k64 : ¬ (64 : Int32) ≤ gI M 903 := by rw [h9]; exact nI_ge (b := 64) (by omega) (by decide)
  have hs6 : s = 1 ∨ s = 2 ∨ s = 3 ∨ s = 4 ∨ s = 5 ∨ s = 6 := by omega
  have t1 : (-6 : Int32) ≤ - nI s := by rcases hs6 with h | h | h | h | h | h <;> subst h <;> decide
  have t2 : - nI s < 0 := by rcases hs6 with h | h | h | h | h | h <;> subst h <;> decide
  have t3 : ¬ oob ((-1 : Int32) - - nI s) 6 := by rcases hs6 with h | h | h | h | h | h <;> subst h <;> decide
  have t4 : ((-1 : Int32) - - nI s).toNatClampNeg = s - 1 := by rcases hs6 with h | h | h | h | h | h <;> subst h <;> decide
  unfold vL
  rw [lpS, bX1_valueOf_124]
  refine eq_f hl (eq_f (nI_in hj (by decide)) (eq_e (v' := - nI s) (by rw [c]; exact hv) (eq_t t1 (eq_f k64 (eq_t t2 (eq_f t3 ?_))))))
  rw [x192 hk h9, nI_1, t4]
theorem xop {n0 q1 j w : Nat} {x : Int32} {M M' : Mem} (hj : j < 1600) (hl : ¬ gI M (128 * q1 + 1) ≤ nI j) (hv : gA M (q1 + 1) j = x) (h6 : ¬ (-6 : Int32) ≤ x) (e : fX1_join n0 x M = some M') : vL n0 q1 (w + 1) (nI j) M = vL n0 q1 w (nI (j + 1)) M' := by
  have c : (nI j).toNatClampNeg = j := nI_clamp (by omega)
  unfold vL
  rw [lpS, bX1_valueOf_124]
  refine eq_f hl (eq_f (nI_in hj (by decide)) (eq_e (v' := x) (by rw [c]; exact hv) (eq_f h6 (eq_b e ?_))))
  unfold fX1_valueOf_203
  rw [nI_1]
theorem xend {n0 q1 k j w : Nat} {M : Mem} (h9 : gI M 903 = nI k) (hk : 0 < k ∧ k ≤ 64) (hl : gI M (128 * q1 + 1) ≤ nI j) : vL n0 q1 (w + 1) (nI j) M = some (gA M 9 0, M) := by
  unfold vL
  rw [lpS, bX1_valueOf_124]
  exact eq_t hl (eq_f (by rw [h9]; exact nI_nle (by omega) (by omega)) (eq_f (by decide) rfl))
end
section
/-! ONE STEP OF A FORMULA'S VALUE BY THE REFERENCE -/
def YH (b wh e : Nat) (M : Mem) : Prop := gI M 13 = nI b ∧ b ≤ 1 ∧ wh ≤ 1 ∧ gA M 15 (2 * b + wh) = nI e ∧ e ≤ 1600
theorem YH.o {b wh e : Nat} {M : Mem} (h : YH b wh e M) : ¬ oob ((2 : Int32) * gI M 13 + nI wh) 4 := by
  obtain ⟨h1, h2, h3, _, _⟩ := h
  rw [h1, show (2 : Int32) = nI 2 from rfl, nI_mul, nI_add]
  exact nI_in (by omega) (by decide)
theorem YH.v {b wh e : Nat} {M : Mem} (h : YH b wh e M) : (1600 : Int32) * gI M 13 + gA M 15 ((2 : Int32) * gI M 13 + nI wh).toNatClampNeg = nI (1600 * b + e) := by
  obtain ⟨h1, h2, h3, h4, _⟩ := h
  rw [h1, show (2 : Int32) = nI 2 from rfl, nI_mul, nI_add, nI_clamp (by omega), h4, show (1600 : Int32) = nI 1600 from rfl, nI_mul, nI_add]
theorem yhd {n0 b wh e i w : Nat} {x2 : Int32} {M : Mem} {r : Option (Int64 × Mem)} (h : YH b wh e M) (hi : i < e) (c : Int32) (hc : gA M 16 (1600 * b + i) = c)
    (H : (if (30 : Int32) < c then
      if c = (43 : Int32) then
        if oob (x2 - (1 : Int32)) 500 then none else
        if oob (x2 - (1 : Int32)) 500 then none else
        fX12_reckons_221 n0 (rL n0 w) (nI wh) x2 (nI (1600 * b + i)) (sB M 34 (Int32.toNatClampNeg (x2 - (1 : Int32))) ((1 : Int64) - (gB M 34 (Int32.toNatClampNeg (x2 - (1 : Int32))))))
      else
        if c = (44 : Int32) then
          if oob ((x2 + (-2 : Int32)) - (1 : Int32)) 500 then none else
          if (lg_cmp (gB M 34 (Int32.toNatClampNeg ((x2 + (-2 : Int32)) - (1 : Int32)))) (1 : Int64)) = 0 then
            if oob (x2 + (-2 : Int32)) 500 then none else
            fX12_reckons_187 n0 (rL n0 w) (nI wh) (x2 + (-2 : Int32)) (nI (1600 * b + i)) ((x2 + (-2 : Int32)) - (1 : Int32)) (gB M 34 (Int32.toNatClampNeg (x2 + (-2 : Int32)))) M
          else
            if oob ((x2 + (-2 : Int32)) + (1 : Int32)) 500 then none else
            fX12_reckons_187 n0 (rL n0 w) (nI wh) (x2 + (-2 : Int32)) (nI (1600 * b + i)) ((x2 + (-2 : Int32)) - (1 : Int32)) (gB M 34 (Int32.toNatClampNeg ((x2 + (-2 : Int32)) + (1 : Int32)))) M
        else
          if oob ((x2 + (-1 : Int32)) - (1 : Int32)) 500 then none else
          if oob (x2 + (-1 : Int32)) 500 then none else
          (fX12_two n0 c (gB M 34 (Int32.toNatClampNeg ((x2 + (-1 : Int32)) - (1 : Int32)))) (gB M 34 (Int32.toNatClampNeg (x2 + (-1 : Int32)))) M).bind fun z217 =>
          if oob ((x2 + (-1 : Int32)) - (1 : Int32)) 500 then none else
          fX12_reckons_221 n0 (rL n0 w) (nI wh) (x2 + (-1 : Int32)) (nI (1600 * b + i)) (sB z217.2 34 (Int32.toNatClampNeg ((x2 + (-1 : Int32)) - (1 : Int32))) z217.1)
    else
      if c = 0 then
        if oob (nI (1600 * b + i)) 3200 then none else
        fX12_reckons_105 n0 (rL n0 w) (nI wh) x2 (nI (1600 * b + i)) x2 ((gA M 17 (Int32.toNatClampNeg (nI (1600 * b + i))))).toInt64 M
      else
        if c = (30 : Int32) then
          fX12_reckons_105 n0 (rL n0 w) (nI wh) x2 (nI (1600 * b + i)) x2 (1 : Int64) M
        else
          if oob c 10 then none else
          fX12_reckons_105 n0 (rL n0 w) (nI wh) x2 (nI (1600 * b + i)) x2 ((gA M 35 (Int32.toNatClampNeg c))).toInt64 M) = r) : rL n0 (w + 1) (nI wh) x2 (nI (1600 * b + i)) M = r := by
  have h2 := h.2.1
  have h5 := h.2.2.2.2
  have hE : ¬ (1600 : Int32) * gI M 13 + gA M 15 ((2 : Int32) * gI M 13 + nI wh).toNatClampNeg ≤ nI (1600 * b + i) := by rw [h.v]; exact nI_ge (by omega) (by omega)
  have c0 : (nI (1600 * b + i)).toNatClampNeg = 1600 * b + i := nI_clamp (by omega)
  unfold rL
  rw [lpS, bX12_reckons_25]
  refine eq_f h.o (eq_f hE (eq_f (nI_in (by omega) (by decide)) (eq_e (v' := c) (by rw [c0]; exact hc) ?_)))
  exact H
theorem y105 {n0 k b i w : Nat} {x1 : Int32} {v : Int64} {M : Mem} (hk : k < 500) : fX12_reckons_105 n0 (rL n0 w) x1 (nI k) (nI (1600 * b + i)) (nI k) v M = rL n0 w x1 (nI (k + 1)) (nI (1600 * b + (i + 1))) (sB M 34 k v) := by
  unfold fX12_reckons_105 fX12_reckons_221
  refine eq_f (nI_in hk (by decide)) (eq_n ?_)
  rw [nI_clamp (by omega), nI_1, nI_1]
  rfl
theorem ylit {n0 b wh e i w k : Nat} {M : Mem} (h : YH b wh e M) (hi : i < e) (hk : k < 500) (hc : gA M 16 (1600 * b + i) = 0) : rL n0 (w + 1) (nI wh) (nI k) (nI (1600 * b + i)) M = rL n0 w (nI wh) (nI (k + 1)) (nI (1600 * b + (i + 1))) (sB M 34 k (gA M 17 (1600 * b + i)).toInt64) := by
  have h2 := h.2.1
  have h5 := h.2.2.2.2
  refine yhd h hi 0 hc (eq_f (by decide) (eq_t rfl (eq_f (nI_in (by omega) (by decide)) ?_)))
  rw [nI_clamp (by omega)]
  exact y105 hk
theorem yone {n0 b wh e i w k : Nat} {M : Mem} (h : YH b wh e M) (hi : i < e) (hk : k < 500) (hc : gA M 16 (1600 * b + i) = 30) : rL n0 (w + 1) (nI wh) (nI k) (nI (1600 * b + i)) M = rL n0 w (nI wh) (nI (k + 1)) (nI (1600 * b + (i + 1))) (sB M 34 k 1) :=
  yhd h hi 30 hc (eq_f (by decide) (eq_f (by decide) (eq_t rfl (y105 hk))))
theorem yfact {n0 b wh e i w k s : Nat} {M : Mem} (h : YH b wh e M) (hi : i < e) (hk : k < 500) (hs : 1 ≤ s ∧ s ≤ 6) (hc : gA M 16 (1600 * b + i) = nI s) : rL n0 (w + 1) (nI wh) (nI k) (nI (1600 * b + i)) M = rL n0 w (nI wh) (nI (k + 1)) (nI (1600 * b + (i + 1))) (sB M 34 k (gA M 35 s).toInt64) := by
  have hs6 : s = 1 ∨ s = 2 ∨ s = 3 ∨ s = 4 ∨ s = 5 ∨ s = 6 := by omega
  have t1 : ¬ (30 : Int32) < nI s := by rcases hs6 with h | h | h | h | h | h <;> subst h <;> decide
  have t2 : ¬ nI s = 0 := by rcases hs6 with h | h | h | h | h | h <;> subst h <;> decide
  have t3 : ¬ nI s = 30 := by rcases hs6 with h | h | h | h | h | h <;> subst h <;> decide
  refine yhd h hi (nI s) hc (eq_f t1 (eq_f t2 (eq_f t3 (eq_f (nI_in (by omega) (by decide)) ?_))))
  rw [nI_clamp (by omega)]
  exact y105 hk
end
section
/-! ONE STEP OF A FORMULA'S VALUE BY THE REFERENCE: what joins -/
theorem nIm1 (k : Nat) : nI (k + 1) + (-1 : Int32) = nI k := by
  rw [← nI_1]
  grind
theorem nIm2 (k : Nat) : nI (k + 2) + (-2 : Int32) = nI k := by
  rw [show k + 2 = k + 1 + 1 from rfl, ← nI_1, ← nI_1]
  grind
theorem ynot {n0 b wh e i w k : Nat} {M : Mem} (h : YH b wh e M) (hi : i < e) (hk : k < 500) (hc : gA M 16 (1600 * b + i) = 43) : rL n0 (w + 1) (nI wh) (nI (k + 1)) (nI (1600 * b + i)) M = rL n0 w (nI wh) (nI (k + 1)) (nI (1600 * b + (i + 1))) (sB M 34 k (1 - gB M 34 k)) := by
  have o : ¬ oob (nI (k + 1) - 1) 500 := by rw [nIs]; exact nI_in hk (by decide)
  have c : (nI (k + 1) - 1).toNatClampNeg = k := by rw [nIs]; exact nI_clamp (by omega)
  refine yhd h hi 43 hc (eq_t (by decide) (eq_t rfl (eq_f o (eq_f o ?_))))
  unfold fX12_reckons_221
  rw [nI_1, c]
  rfl
theorem ytw {n0 b wh e i w k : Nat} {M : Mem} {c : Int32} {v : Int64} (h : YH b wh e M) (hi : i < e) (hk : k + 1 < 500) (hc : gA M 16 (1600 * b + i) = c) (h30 : (30 : Int32) < c) (h43 : ¬ c = 43) (h44 : ¬ c = 44) (ev : fX12_two n0 c (gB M 34 k) (gB M 34 (k + 1)) M = some (v, M)) : rL n0 (w + 1) (nI wh) (nI (k + 2)) (nI (1600 * b + i)) M = rL n0 w (nI wh) (nI (k + 1)) (nI (1600 * b + (i + 1))) (sB M 34 k v) := by
  have s1 : nI (k + 2) + (-1 : Int32) = nI (k + 1) := nIm1 (k + 1)
  have c1 : (nI (k + 1)).toNatClampNeg = k + 1 := nI_clamp (by omega)
  have c0 : (nI k).toNatClampNeg = k := nI_clamp (by omega)
  refine yhd h hi c hc (eq_t h30 (eq_f h43 (eq_f h44 ?_)))
  simp only [s1, nIs, c0, c1]
  refine eq_f (nI_in (by omega) (by decide)) (eq_f (nI_in (by omega) (by decide)) (eq_b ev (eq_f (nI_in (by omega) (by decide)) ?_)))
  unfold fX12_reckons_221
  rw [nI_1]
  rfl
theorem yif {n0 b wh e i w k : Nat} {M : Mem} {a : Int} (h : YH b wh e M) (hi : i < e) (hk : k + 2 < 500) (hc : gA M 16 (1600 * b + i) = 44) (ha : bR a) (ea : gB M 34 k = zL a) : rL n0 (w + 1) (nI wh) (nI (k + 3)) (nI (1600 * b + i)) M = rL n0 w (nI wh) (nI (k + 1)) (nI (1600 * b + (i + 1))) (sB M 34 k (if a = 1 then gB M 34 (k + 1) else gB M 34 (k + 2))) := by
  have s2 : nI (k + 3) + (-2 : Int32) = nI (k + 1) := nIm2 (k + 1)
  have c2 : (nI (k + 2)).toNatClampNeg = k + 2 := nI_clamp (by omega)
  have c1 : (nI (k + 1)).toNatClampNeg = k + 1 := nI_clamp (by omega)
  have c0 : (nI k).toNatClampNeg = k := nI_clamp (by omega)
  have r1 : lR 1 := by unfold lR; omega
  have cc := lgc_eq ha.m.l r1
  refine yhd h hi 44 hc (eq_t (by decide) (eq_f (by decide) (eq_t rfl ?_)))
  simp only [s2, nIs, nI_1, c0, c1, c2, ea]
  refine eq_f (nI_in (by omega) (by decide)) ?_
  rw [zl1]
  by_cases g : a = 1
  · rw [if_pos g]
    refine eq_t (cc.mpr g) (eq_f (nI_in (by omega) (by decide)) ?_)
    unfold fX12_reckons_187 fX12_reckons_221
    refine eq_f (nI_in (by omega) (by decide)) ?_
    rw [c0, nI_1]
    rfl
  · rw [if_neg g]
    refine eq_f (fun z => g (cc.mp z)) (eq_f (nI_in (by omega) (by decide)) ?_)
    unfold fX12_reckons_187 fX12_reckons_221
    refine eq_f (nI_in (by omega) (by decide)) ?_
    rw [c0, nI_1]
    rfl
theorem yend {n0 b wh e w : Nat} {x2 : Int32} {M : Mem} (h : YH b wh e M) : rL n0 (w + 1) (nI wh) x2 (nI (1600 * b + e)) M = some (gB M 34 0, M) := by
  have h2 := h.2.1
  have h5 := h.2.2.2.2
  unfold rL
  rw [lpS, bX12_reckons_25]
  exact eq_f h.o (eq_t (by rw [h.v]; exact nI_le (by omega) (by omega)) (eq_f (by decide) rfl))
/-- the class chooses one of two -/
theorem xif {n0 k : Nat} {a v1 v2 : Int} {M : Mem} (hk : k + 2 < 64) (h9 : gI M 903 = nI (k + 3)) (e0 : gA M 9 k = zI a) (e1 : gA M 9 (k + 1) = zI v1) (e2 : gA M 9 (k + 2) = zI v2) (ha : bR a) (m1 : mR v1) (m2 : mR v2) : fX1_join n0 (-14) M = some (sA (sI M 903 (nI (k + 1))) 9 k (zI (if a = 1 then v1 else v2))) := by
  have c0 : (nI k).toNatClampNeg = k := nI_clamp (by omega)
  have c1 : (nI (k + 1)).toNatClampNeg = k + 1 := nI_clamp (by omega)
  have c2 : (nI (k + 2)).toNatClampNeg = k + 2 := nI_clamp (by omega)
  have p2 : nI k + (2 : Int32) = nI (k + 2) := by rw [show (2 : Int32) = nI 2 from rfl, nI_add]
  have o0 : ¬ oob (nI k) 64 := nI_in (by omega) (by decide)
  have o1 : ¬ oob (nI k + 1) 64 := by rw [nI_1]; exact nI_in (by omega) (by decide)
  have o2 : ¬ oob (nI k + 2) 64 := by rw [p2]; exact nI_in (by omega) (by decide)
  have q1 : gI M 903 - ((3 : Int32) - 1) = nI (k + 1) := by
    rw [h9, ← nIm2 (k + 1)]
    grind
  unfold fX1_join fX1_join_11
  refine eq_t rfl (eq_t (by rw [h9]; exact nI_le (a := 3) (by omega) (by omega)) (eq_e (v' := sI M 903 (nI (k + 1))) (by rw [q1]) (eq_e (v' := nI k) (by rw [gI_at]; exact nIs k) (eq_f o0 (eq_e (v' := zI a) (by rw [c0]; exact e0) (eq_f o1 (eq_e (v' := zI v1) (by rw [nI_1, c1]; exact e1) ?_)))))))
  refine eq_f (by decide) (eq_f (by decide) (eq_f (by decide) (eq_f (by decide) (eq_f (by decide) (eq_t rfl ?_)))))
  by_cases g : a = 0
  · rw [if_neg (show ¬ a = 1 by omega)]
    refine eq_t ((zI_z ha.m).mpr g) (eq_f o2 ?_)
    exact xjz (by omega) (by rw [p2, c2, gA_sI, e2]; exact zIL m2) m2
  · rw [if_pos (show a = 1 from ha.resolve_left g)]
    exact eq_f (fun z => g ((zI_z ha.m).mp z)) (xjz (by omega) (zIL m1) m1)
end
section
/-! WHAT WAITS, ON BOTH SIDES -/
def Stk : List Bool → (Nat → Int32) → (Nat → Int64) → Prop
  | [], _, _ => True
  | t :: st, x, y => (∃ a, x st.length = zI a ∧ y st.length = zL a ∧ mR a ∧ (t = true → bR a)) ∧ Stk st x y
theorem Stk.cong : ∀ {st : List Bool} {x x' : Nat → Int32} {y y' : Nat → Int64}, Stk st x y → (∀ i, i < st.length → x' i = x i) → (∀ i, i < st.length → y' i = y i) → Stk st x' y'
  | [], _, _, _, _, _, _, _ => trivial
  | t :: st, x, x', y, y', h, h1, h2 => by
    obtain ⟨⟨a, a1, a2, a3, a4⟩, h⟩ := h
    have l : (t :: st).length = st.length + 1 := rfl
    exact ⟨⟨a, (h1 _ (by omega)).trans a1, (h2 _ (by omega)).trans a2, a3, a4⟩, Stk.cong h (fun i hi => h1 i (by omega)) (fun i hi => h2 i (by omega))⟩
/-- what the class may change while it reckons -/
def VX (M M' : Mem) : Prop := gR M' = gR M ∧ gL M' = gL M ∧ gB M' = gB M ∧ (∀ a, ¬ a = 9 → gA M' a = gA M a) ∧ ∀ k, ¬ k = 903 → gI M' k = gI M k
theorem VX.r {M : Mem} : VX M M := ⟨rfl, rfl, rfl, fun _ _ => rfl, fun _ _ => rfl⟩
theorem VX.tr {M M' M2 : Mem} (h : VX M M') (g : VX M' M2) : VX M M2 := ⟨g.1.trans h.1, g.2.1.trans h.2.1, g.2.2.1.trans h.2.2.1, fun a z => (g.2.2.2.1 a z).trans (h.2.2.2.1 a z), fun a z => (g.2.2.2.2 a z).trans (h.2.2.2.2 a z)⟩
theorem VX.i {M M' : Mem} {v : Int32} (h : VX M M') : VX M (sI M' 903 v) := ⟨h.1, h.2.1, h.2.2.1, h.2.2.2.1, fun k z => (gI_ne z).trans (h.2.2.2.2 k z)⟩
theorem VX.a {M M' : Mem} {i : Nat} {v : Int32} (h : VX M M') : VX M (sA M' 9 i v) := ⟨h.1, h.2.1, h.2.2.1, fun a z => (gA_sA_ne z).trans (h.2.2.2.1 a z), h.2.2.2.2⟩
/-- what the reference may change while it reckons -/
def VY (M M' : Mem) : Prop := gR M' = gR M ∧ gL M' = gL M ∧ gA M' = gA M ∧ gI M' = gI M ∧ ∀ a, ¬ a = 34 → gB M' a = gB M a
theorem VY.r {M : Mem} : VY M M := ⟨rfl, rfl, rfl, rfl, fun _ _ => rfl⟩
theorem VY.tr {M M' M2 : Mem} (h : VY M M') (g : VY M' M2) : VY M M2 := ⟨g.1.trans h.1, g.2.1.trans h.2.1, g.2.2.1.trans h.2.2.1, g.2.2.2.1.trans h.2.2.2.1, fun a z => (g.2.2.2.2 a z).trans (h.2.2.2.2 a z)⟩
theorem VY.b {M M' : Mem} {i : Nat} {v : Int64} (h : VY M M') : VY M (sB M' 34 i v) := ⟨h.1, h.2.1, h.2.2.1, h.2.2.2.1, fun a z => by
  funext j
  rw [gB_sB, if_neg z, h.2.2.2.2 a z]⟩
theorem Stk.put {t : Bool} {st : List Bool} {MX MY MX' MY' : Mem} {a : Int} (h : Stk st (gA MX 9) (gB MY 34)) (eX : gA MX' 9 = upd (gA MX 9) st.length (zI a)) (eY : gB MY' 34 = gB (sB MY 34 st.length (zL a)) 34) (m : mR a) (hb : t = true → bR a) : Stk (t :: st) (gA MX' 9) (gB MY' 34) := by
  have x1 : ∀ i, gA MX' 9 i = if i = st.length then zI a else gA MX 9 i := fun i => by rw [eX]; rfl
  have y1 : ∀ i, gB MY' 34 i = if i = st.length then zL a else gB MY 34 i := fun i => by rw [eY, gB_sB, if_pos rfl]
  exact ⟨⟨a, by rw [x1, if_pos rfl], by rw [y1, if_pos rfl], m, hb⟩, h.cong (fun i hi => by rw [x1, if_neg (by omega)]) (fun i hi => by rw [y1, if_neg (by omega)])⟩
theorem mif {P : Prop} [Decidable P] {x y : Int} (hx : mR x) (hy : mR y) : mR (if P then x else y) := by
  by_cases g : P
  · rw [if_pos g]; exact hx
  · rw [if_neg g]; exact hy
theorem opZ_m {c : Int32} {a b : Int} (ha : mR a) (hb : mR b) : mR (opZ c a b) :=
  mif (clip_m _) (mif (clip_m _) (mif (clip_m _) (mif (clip_m _) (mif (mif m0 (clip_m _)) (mif (mif hb ha) (mif (mif hb ha) (mif (mif m0 m1) (mif (mif m0 m1) (mif (mif m1 m0) (mif (mif m0 hb) (mif hb m1)))))))))))
def FcR (MX MY : Mem) : Prop := ∀ s, 1 ≤ s → s ≤ 6 → ∃ a, gA MX 8 (s - 1) = zI a ∧ gA MY 35 s = zI a ∧ mR a
/-- both sides before the code at i of the reference, the step at j of the class -/
def EvR (q1 b wh e len : Nat) (st : List Bool) (MX MY : Mem) : Prop := ¬ q1 = 8 ∧ ¬ q1 = 7 ∧ gI MX (128 * q1 + 1) = nI len ∧ len ≤ 1600 ∧ gI MX 903 = nI st.length ∧ st.length ≤ 60 ∧ Stk st (gA MX 9) (gB MY 34) ∧ YH b wh e MY ∧ FcR MX MY
theorem EvR.go {q1 b wh e len : Nat} {st st' : List Bool} {MX MY MX' MY' : Mem} (h : EvR q1 b wh e len st MX MY) (fx : VX MX MX') (fy : VY MY MY') (h9 : gI MX' 903 = nI st'.length) (hs : st'.length ≤ 60) (hS : Stk st' (gA MX' 9) (gB MY' 34)) : EvR q1 b wh e len st' MX' MY' := by
  obtain ⟨h1, h1', h2, h3, h4, h5, h6, h7, h8⟩ := h
  refine ⟨h1, h1', (fx.2.2.2.2 _ (by omega)).trans h2, h3, h9, hs, hS, ?_, fun s a1 a2 => ?_⟩
  · unfold YH at h7 ⊢
    rw [fy.2.2.2.1, fy.2.2.1]
    exact h7
  · rw [fx.2.2.2.1 8 (by decide), fy.2.2.1]
    exact h8 s a1 a2
end
section
/-! ONE CODE OF A FORMULA ON BOTH SIDES -/
def Ev1 (n0 q1 b wh e len : Nat) (st st' : List Bool) (i j n : Nat) (MX MY : Mem) : Prop := ∃ MX' MY', (∀ w, vL n0 q1 (w + n) (nI j) MX = vL n0 q1 w (nI (j + n)) MX') ∧ (∀ w, rL n0 (w + 1) (nI wh) (nI st.length) (nI (1600 * b + i)) MY = rL n0 w (nI wh) (nI st'.length) (nI (1600 * b + (i + 1))) MY') ∧ EvR q1 b wh e len st' MX' MY' ∧ VX MX MX' ∧ VY MY MY'
theorem evpush {n0 q1 b wh e len i j : Nat} {t : Bool} {st : List Bool} {MX MY : Mem} {a : Int} (h : EvR q1 b wh e len st MX MY) (hl : st.length < 60) (m : mR a) (hb : t = true → bR a) (hx : ∀ w, vL n0 q1 (w + 1) (nI j) MX = vL n0 q1 w (nI (j + 1)) (sI (sA MX 9 st.length (zI a)) 903 (nI (st.length + 1)))) (hy : ∀ w, rL n0 (w + 1) (nI wh) (nI st.length) (nI (1600 * b + i)) MY = rL n0 w (nI wh) (nI (st.length + 1)) (nI (1600 * b + (i + 1))) (sB MY 34 st.length (zL a))) : Ev1 n0 q1 b wh e len st (t :: st) i j 1 MX MY :=
  ⟨_, _, hx, hy, h.go VX.r.a.i VY.r.b gI_at (by show st.length + 1 ≤ 60; omega) (h.2.2.2.2.2.2.1.put gA_sA_at rfl m hb), VX.r.a.i, VY.r.b⟩
theorem evjoin {n0 q1 b wh e len i j : Nat} {t t1 t2 : Bool} {r : List Bool} {MX MY : Mem} {v : Int} (h : EvR q1 b wh e len (t1 :: t2 :: r) MX MY) (m : mR v) (hb : t = true → bR v) (hx : ∀ w, vL n0 q1 (w + 1) (nI j) MX = vL n0 q1 w (nI (j + 1)) (sA (sI MX 903 (nI (r.length + 1))) 9 r.length (zI v))) (hy : ∀ w, rL n0 (w + 1) (nI wh) (nI (r.length + 2)) (nI (1600 * b + i)) MY = rL n0 w (nI wh) (nI (r.length + 1)) (nI (1600 * b + (i + 1))) (sB MY 34 r.length (zL v))) : Ev1 n0 q1 b wh e len (t1 :: t2 :: r) (t :: r) i j 1 MX MY := by
  have l : (t1 :: t2 :: r).length = r.length + 2 := rfl
  have h6 := h.2.2.2.2.2.1
  exact ⟨_, _, hx, hy, h.go VX.r.i.a VY.r.b (by rw [gI_sA]; exact gI_at) (by show r.length + 1 ≤ 60; omega) (h.2.2.2.2.2.2.1.2.2.put gA_sA_at rfl m hb), VX.r.i.a, VY.r.b⟩
theorem evop {n0 q1 b wh e len i j : Nat} {t t1 t2 : Bool} {r : List Bool} {MX MY : Mem} {c x : Int32} (h : EvR q1 b wh e len (t1 :: t2 :: r) MX MY) (hj : j < len) (hi : i < e) (hX : gA MX (q1 + 1) j = x) (hY : gA MY 16 (1600 * b + i) = c) (h6 : ¬ (-6 : Int32) ≤ x) (h14 : ¬ x = -14) (h30 : (30 : Int32) < c) (h43 : ¬ c = 43) (h44 : ¬ c = 44)
    (xv : ∀ (u v : Int) (M : Mem), mR u → mR v → (t1 = true → bR v) → (t2 = true → bR u) → joinT n0 x (nI r.length) (zI u) (zI v) M = some (sA M 9 r.length (zI (opZ c u v))))
    (yv : ∀ (u v : Int) (M : Mem), mR u → mR v → (t1 = true → bR v) → (t2 = true → bR u) → fX12_two n0 c (zL u) (zL v) M = some (zL (opZ c u v), M))
    (hb : ∀ u v, (t1 = true → bR v) → (t2 = true → bR u) → t = true → bR (opZ c u v)) : Ev1 n0 q1 b wh e len (t1 :: t2 :: r) (t :: r) i j 1 MX MY := by
  have l : (t1 :: t2 :: r).length = r.length + 2 := rfl
  obtain ⟨q8, q7, n1, n2, h9, h60, ⟨⟨v, v1, v2, v3, v4⟩, ⟨u, u1, u2, u3, u4⟩, hS⟩, hH, hF⟩ := id h
  have l2 : (t2 :: r).length = r.length + 1 := rfl
  rw [l2] at v1 v2
  have hl : ¬ gI MX (128 * q1 + 1) ≤ nI j := by rw [n1]; exact nI_ge hj (by omega)
  refine evjoin h (opZ_m u3 v3) (hb u v v4 u4) (fun w => ?_) (fun w => ?_)
  · refine xop (by omega) hl hX h6 ?_
    rw [xjoin (k := r.length) (by omega) h9 h14, u1, v1]
    exact xv u v _ u3 v3 v4 u4
  · refine ytw hH hi (by omega) hY h30 h43 h44 ?_
    rw [u2, v2]
    exact yv u v _ u3 v3 v4 u4
end
section
/-! ONE CODE OF A FORMULA ON BOTH SIDES: numbers, facts, a TEST that holds, NOT, IF -/
theorem evlit {n0 q1 b wh e len i j : Nat} {st : List Bool} {MX MY : Mem} {c2 : Int32} (h : EvR q1 b wh e len st MX MY) (hl : st.length < 60) (h0 : 0 ≤ c2) (h9 : c2 ≤ 9999) (hj : j < len) (hi : i < e) (hX : gA MX (q1 + 1) j = c2) (hY : gA MY 16 (1600 * b + i) = 0) (hY2 : gA MY 17 (1600 * b + i) = c2) : Ev1 n0 q1 b wh e len st (false :: st) i j 1 MX MY := by
  obtain ⟨q8, q7, n1, n2, h93, h60, hS, hH, hF⟩ := id h
  have hle : ¬ gI MX (128 * q1 + 1) ≤ nI j := by rw [n1]; exact nI_ge hj (by omega)
  have a1 : (0 : Int) ≤ c2.toInt := Int32.le_iff_toInt_le.mp h0
  have a2 : c2.toInt ≤ (9999 : Int) := Int32.le_iff_toInt_le.mp h9
  have m : mR c2.toInt := by unfold mR; omega
  refine evpush (a := c2.toInt) h hl m (fun z => by cases z) (fun w => ?_) (fun w => ?_)
  · rw [zI_of]
    exact xlit (by omega) h93 (by omega) hle hX h0
  · rw [← zIL m, zI_of, ← hY2]
    exact ylit hH hi (by omega) hY
theorem evone {n0 q1 b wh e len i j : Nat} {st : List Bool} {MX MY : Mem} (h : EvR q1 b wh e len st MX MY) (hl : st.length < 60) (hj : j < len) (hi : i < e) (hX : gA MX (q1 + 1) j = 1) (hY : gA MY 16 (1600 * b + i) = 30) : Ev1 n0 q1 b wh e len st (true :: st) i j 1 MX MY := by
  obtain ⟨q8, q7, n1, n2, h93, h60, hS, hH, hF⟩ := id h
  have hle : ¬ gI MX (128 * q1 + 1) ≤ nI j := by rw [n1]; exact nI_ge hj (by omega)
  refine evpush (a := 1) h hl m1 (fun _ => Or.inr rfl) (fun w => ?_) (fun w => ?_)
  · rw [← zi1]
    exact xlit (by omega) h93 (by omega) hle hX (by decide)
  · rw [← zl1]
    exact yone hH hi (by omega) hY
theorem evfact {n0 q1 b wh e len i j s : Nat} {st : List Bool} {MX MY : Mem} (h : EvR q1 b wh e len st MX MY) (hl : st.length < 60) (hs : 1 ≤ s ∧ s ≤ 6) (hj : j < len) (hi : i < e) (hX : gA MX (q1 + 1) j = - nI s) (hY : gA MY 16 (1600 * b + i) = nI s) : Ev1 n0 q1 b wh e len st (false :: st) i j 1 MX MY := by
  obtain ⟨q8, q7, n1, n2, h93, h60, hS, hH, hF⟩ := id h
  have hle : ¬ gI MX (128 * q1 + 1) ≤ nI j := by rw [n1]; exact nI_ge hj (by omega)
  obtain ⟨a, a1, a2, m⟩ := hF s hs.1 hs.2
  refine evpush (a := a) h hl m (fun z => by cases z) (fun w => ?_) (fun w => ?_)
  · rw [← a1]
    exact xfact (by omega) h93 (by omega) hle hs hX
  · rw [← zIL m, ← a2]
    exact yfact hH hi (by omega) hs hY
theorem evif {n0 q1 b wh e len i j : Nat} {r : List Bool} {MX MY : Mem} (h : EvR q1 b wh e len (false :: false :: true :: r) MX MY) (hj : j < len) (hi : i < e) (hX : gA MX (q1 + 1) j = -14) (hY : gA MY 16 (1600 * b + i) = 44) : Ev1 n0 q1 b wh e len (false :: false :: true :: r) (false :: r) i j 1 MX MY := by
  have l : (false :: false :: true :: r).length = r.length + 3 := rfl
  obtain ⟨q8, q7, n1, n2, h93, h60, ⟨⟨v, v1, v2, v3, v4⟩, ⟨u, u1, u2, u3, u4⟩, ⟨a, a1, a2, a3, a4⟩, hS⟩, hH, hF⟩ := id h
  have l2 : (false :: true :: r).length = r.length + 2 := rfl
  have l1 : (true :: r).length = r.length + 1 := rfl
  rw [l2] at v1 v2
  rw [l1] at u1 u2
  have hle : ¬ gI MX (128 * q1 + 1) ≤ nI j := by rw [n1]; exact nI_ge hj (by omega)
  have ez : (if a = 1 then gB MY 34 (r.length + 1) else gB MY 34 (r.length + 2)) = zL (if a = 1 then u else v) := by
    by_cases g : a = 1
    · rw [if_pos g, if_pos g, u2]
    · rw [if_neg g, if_neg g, v2]
  refine ⟨sA (sI MX 903 (nI (r.length + 1))) 9 r.length (zI (if a = 1 then u else v)), sB MY 34 r.length (zL (if a = 1 then u else v)), fun w => ?_, fun w => ?_, h.go VX.r.i.a VY.r.b (by rw [gI_sA]; exact gI_at) (by show r.length + 1 ≤ 60; omega) (hS.put gA_sA_at rfl (mif u3 v3) (fun z => by cases z)), VX.r.i.a, VY.r.b⟩
  · exact xop (by omega) hle hX (by decide) (xif (by omega) h93 a1 u1 v1 (a4 rfl) u3 v3)
  · rw [← ez]
    exact yif hH hi (by omega) hY (a4 rfl) a2
end
section
/-! ONE CODE OF A FORMULA ON BOTH SIDES: NOT -/
theorem evnot {n0 q1 b wh e len i j : Nat} {r : List Bool} {MX MY : Mem} (h : EvR q1 b wh e len (true :: r) MX MY) (hr : r.length < 59) (hj : j + 1 < len) (hi : i < e) (hX : gA MX (q1 + 1) j = 0) (hX2 : gA MX (q1 + 1) (j + 1) = -17) (hY : gA MY 16 (1600 * b + i) = 43) : Ev1 n0 q1 b wh e len (true :: r) (true :: r) i j 2 MX MY := by
  have l : (true :: r).length = r.length + 1 := rfl
  obtain ⟨q8, q7, n1, n2, h93, h60, ⟨⟨a, a1, a2, a3, a4⟩, hS⟩, hH, hF⟩ := id h
  have a5 : bR a := a4 rfl
  have hl1 : ¬ gI MX (128 * q1 + 1) ≤ nI j := by rw [n1]; exact nI_ge (by omega) (by omega)
  have f1 : VX MX (sI (sA MX 9 (r.length + 1) 0) 903 (nI (r.length + 1 + 1))) := VX.r.a.i
  have hl2 : ¬ gI (sI (sA MX 9 (r.length + 1) 0) 903 (nI (r.length + 1 + 1))) (128 * q1 + 1) ≤ nI (j + 1) := by rw [f1.2.2.2.2 _ (by omega), n1]; exact nI_ge (by omega) (by omega)
  have b0 : gA (sI (sA MX 9 (r.length + 1) 0) 903 (nI (r.length + 1 + 1))) 9 r.length = zI a := by rw [gA_sI, gA_sA, if_pos rfl, if_neg (by omega)]; exact a1
  have b1 : gA (sI (sA MX 9 (r.length + 1) 0) 903 (nI (r.length + 1 + 1))) 9 (r.length + 1) = zI 0 := by rw [gA_sI, gA_sA, if_pos rfl, if_pos rfl]; exact zi0
  have ev : (1 : Int64) - gB MY 34 r.length = zL (opZ 40 a 0) := by
    rw [a2]
    rcases a5 with g | g <;> subst g <;> decide
  have hb : bR (opZ 40 a 0) := by
    rcases a5 with g | g <;> subst g
    · exact Or.inr rfl
    · exact Or.inl rfl
  have f2 : VX MX (sA (sI (sI (sA MX 9 (r.length + 1) 0) 903 (nI (r.length + 1 + 1))) 903 (nI (r.length + 1))) 9 r.length (zI (opZ 40 a 0))) := VX.r.a.i.i.a
  have hS2 : Stk r (gA (sI (sI (sA MX 9 (r.length + 1) 0) 903 (nI (r.length + 1 + 1))) 903 (nI (r.length + 1))) 9) (gB MY 34) := hS.cong (fun i hi => by rw [gA_sI, gA_sI, gA_sA, if_pos rfl, if_neg (by omega)]) (fun _ _ => rfl)
  refine ⟨sA (sI (sI (sA MX 9 (r.length + 1) 0) 903 (nI (r.length + 1 + 1))) 903 (nI (r.length + 1))) 9 r.length (zI (opZ 40 a 0)), sB MY 34 r.length (zL (opZ 40 a 0)), fun w => ?_, fun w => ?_, h.go f2 VY.r.b (by rw [gI_sA]; exact gI_at) h60 (hS2.put gA_sA_at rfl hb.m (fun _ => hb)), f2, VY.r.b⟩
  · refine Eq.trans (xlit (w := w + 1) (k := r.length + 1) (by omega) h93 (by omega) hl1 hX (by decide)) ?_
    refine xop (by omega) hl2 ((congrFun (f1.2.2.2.1 _ (by omega)) _).trans hX2) (by decide) ?_
    rw [xjoin (k := r.length) (by omega) gI_at (by decide), b0, b1]
    exact x40 (by omega) a3 m0
  · rw [← ev]
    exact ynot hH hi (by omega) hY
end
section
/-! EVERY JOINING CODE, ONE BY ONE -/
theorem bIf {P : Prop} [Decidable P] {x y : Int} (hx : bR x) (hy : bR y) : bR (if P then x else y) := by
  by_cases g : P
  · rw [if_pos g]; exact hx
  · rw [if_neg g]; exact hy
theorem b0 : bR 0 := Or.inl rfl
theorem b1 : bR 1 := Or.inr rfl
theorem ev31 {n0 q1 b wh e len i j : Nat} {r : List Bool} {MX MY : Mem} (h : EvR q1 b wh e len (false :: false :: r) MX MY) (hj : j < len) (hi : i < e) (hX : gA MX (q1 + 1) j = -7) (hY : gA MY 16 (1600 * b + i) = 31) : Ev1 n0 q1 b wh e len (false :: false :: r) (false :: r) i j 1 MX MY := by
  have l : (false :: false :: r).length = r.length + 2 := rfl
  have h6 := h.2.2.2.2.2.1
  exact evop h hj hi hX hY (by decide) (by decide) (by decide) (by decide) (by decide) (fun u v M g1 g2 _ _ => x31 (by omega) g1 g2) (fun u v M g1 g2 _ _ => y31 g1 g2) (fun u v _ _ z => by cases z)
theorem ev32 {n0 q1 b wh e len i j : Nat} {r : List Bool} {MX MY : Mem} (h : EvR q1 b wh e len (false :: false :: r) MX MY) (hj : j < len) (hi : i < e) (hX : gA MX (q1 + 1) j = -8) (hY : gA MY 16 (1600 * b + i) = 32) : Ev1 n0 q1 b wh e len (false :: false :: r) (false :: r) i j 1 MX MY := by
  have l : (false :: false :: r).length = r.length + 2 := rfl
  have h6 := h.2.2.2.2.2.1
  exact evop h hj hi hX hY (by decide) (by decide) (by decide) (by decide) (by decide) (fun u v M g1 g2 _ _ => x32 (by omega) g1 g2) (fun u v M g1 g2 _ _ => y32 g1 g2) (fun u v _ _ z => by cases z)
theorem ev33 {n0 q1 b wh e len i j : Nat} {r : List Bool} {MX MY : Mem} (h : EvR q1 b wh e len (false :: false :: r) MX MY) (hj : j < len) (hi : i < e) (hX : gA MX (q1 + 1) j = -9) (hY : gA MY 16 (1600 * b + i) = 33) : Ev1 n0 q1 b wh e len (false :: false :: r) (false :: r) i j 1 MX MY := by
  have l : (false :: false :: r).length = r.length + 2 := rfl
  have h6 := h.2.2.2.2.2.1
  exact evop h hj hi hX hY (by decide) (by decide) (by decide) (by decide) (by decide) (fun u v M g1 g2 _ _ => x33 (by omega) g1 g2) (fun u v M g1 g2 _ _ => y33 g1 g2) (fun u v _ _ z => by cases z)
theorem ev34 {n0 q1 b wh e len i j : Nat} {r : List Bool} {MX MY : Mem} (h : EvR q1 b wh e len (false :: false :: r) MX MY) (hj : j < len) (hi : i < e) (hX : gA MX (q1 + 1) j = -10) (hY : gA MY 16 (1600 * b + i) = 34) : Ev1 n0 q1 b wh e len (false :: false :: r) (false :: r) i j 1 MX MY := by
  have l : (false :: false :: r).length = r.length + 2 := rfl
  have h6 := h.2.2.2.2.2.1
  exact evop h hj hi hX hY (by decide) (by decide) (by decide) (by decide) (by decide) (fun u v M g1 g2 _ _ => x34 (by omega) g1 g2) (fun u v M g1 g2 _ _ => y34 g1 g2) (fun u v _ _ z => by cases z)
theorem ev35 {n0 q1 b wh e len i j : Nat} {r : List Bool} {MX MY : Mem} (h : EvR q1 b wh e len (false :: false :: r) MX MY) (hj : j < len) (hi : i < e) (hX : gA MX (q1 + 1) j = -11) (hY : gA MY 16 (1600 * b + i) = 35) : Ev1 n0 q1 b wh e len (false :: false :: r) (false :: r) i j 1 MX MY := by
  have l : (false :: false :: r).length = r.length + 2 := rfl
  have h6 := h.2.2.2.2.2.1
  exact evop h hj hi hX hY (by decide) (by decide) (by decide) (by decide) (by decide) (fun u v M g1 g2 _ _ => x35 (by omega) g1 g2) (fun u v M g1 g2 _ _ => y35 g1 g2) (fun u v _ _ z => by cases z)
theorem ev36 {n0 q1 b wh e len i j : Nat} {r : List Bool} {MX MY : Mem} (h : EvR q1 b wh e len (false :: false :: r) MX MY) (hj : j < len) (hi : i < e) (hX : gA MX (q1 + 1) j = -12) (hY : gA MY 16 (1600 * b + i) = 36) : Ev1 n0 q1 b wh e len (false :: false :: r) (false :: r) i j 1 MX MY := by
  have l : (false :: false :: r).length = r.length + 2 := rfl
  have h6 := h.2.2.2.2.2.1
  exact evop h hj hi hX hY (by decide) (by decide) (by decide) (by decide) (by decide) (fun u v M g1 g2 _ _ => x36 (by omega) g1 g2) (fun u v M g1 g2 _ _ => y36 g1 g2) (fun u v _ _ z => by cases z)
theorem ev37 {n0 q1 b wh e len i j : Nat} {r : List Bool} {MX MY : Mem} (h : EvR q1 b wh e len (false :: false :: r) MX MY) (hj : j < len) (hi : i < e) (hX : gA MX (q1 + 1) j = -13) (hY : gA MY 16 (1600 * b + i) = 37) : Ev1 n0 q1 b wh e len (false :: false :: r) (false :: r) i j 1 MX MY := by
  have l : (false :: false :: r).length = r.length + 2 := rfl
  have h6 := h.2.2.2.2.2.1
  exact evop h hj hi hX hY (by decide) (by decide) (by decide) (by decide) (by decide) (fun u v M g1 g2 _ _ => x37 (by omega) g1 g2) (fun u v M g1 g2 _ _ => y37 g1 g2) (fun u v _ _ z => by cases z)
theorem ev38 {n0 q1 b wh e len i j : Nat} {r : List Bool} {MX MY : Mem} (h : EvR q1 b wh e len (false :: false :: r) MX MY) (hj : j < len) (hi : i < e) (hX : gA MX (q1 + 1) j = -15) (hY : gA MY 16 (1600 * b + i) = 38) : Ev1 n0 q1 b wh e len (false :: false :: r) (true :: r) i j 1 MX MY := by
  have l : (false :: false :: r).length = r.length + 2 := rfl
  have h6 := h.2.2.2.2.2.1
  exact evop h hj hi hX hY (by decide) (by decide) (by decide) (by decide) (by decide) (fun u v M g1 g2 _ _ => x38 (by omega) g1 g2) (fun u v M g1 g2 _ _ => y38 g1 g2) (fun u v _ _ _ => (show bR (if v ≤ u then 0 else 1) from bIf b0 b1))
theorem ev39 {n0 q1 b wh e len i j : Nat} {r : List Bool} {MX MY : Mem} (h : EvR q1 b wh e len (false :: false :: r) MX MY) (hj : j < len) (hi : i < e) (hX : gA MX (q1 + 1) j = -16) (hY : gA MY 16 (1600 * b + i) = 39) : Ev1 n0 q1 b wh e len (false :: false :: r) (true :: r) i j 1 MX MY := by
  have l : (false :: false :: r).length = r.length + 2 := rfl
  have h6 := h.2.2.2.2.2.1
  exact evop h hj hi hX hY (by decide) (by decide) (by decide) (by decide) (by decide) (fun u v M g1 g2 _ _ => x39 (by omega) g1 g2) (fun u v M g1 g2 _ _ => y39 g1 g2) (fun u v _ _ _ => (show bR (if u ≤ v then 0 else 1) from bIf b0 b1))
theorem ev40 {n0 q1 b wh e len i j : Nat} {r : List Bool} {MX MY : Mem} (h : EvR q1 b wh e len (false :: false :: r) MX MY) (hj : j < len) (hi : i < e) (hX : gA MX (q1 + 1) j = -17) (hY : gA MY 16 (1600 * b + i) = 40) : Ev1 n0 q1 b wh e len (false :: false :: r) (true :: r) i j 1 MX MY := by
  have l : (false :: false :: r).length = r.length + 2 := rfl
  have h6 := h.2.2.2.2.2.1
  exact evop h hj hi hX hY (by decide) (by decide) (by decide) (by decide) (by decide) (fun u v M g1 g2 _ _ => x40 (by omega) g1 g2) (fun u v M g1 g2 _ _ => y40 g1 g2) (fun u v _ _ _ => (show bR (if u = v then 1 else 0) from bIf b1 b0))
theorem ev41 {n0 q1 b wh e len i j : Nat} {r : List Bool} {MX MY : Mem} (h : EvR q1 b wh e len (true :: true :: r) MX MY) (hj : j < len) (hi : i < e) (hX : gA MX (q1 + 1) j = -18) (hY : gA MY 16 (1600 * b + i) = 41) : Ev1 n0 q1 b wh e len (true :: true :: r) (true :: r) i j 1 MX MY := by
  have l : (true :: true :: r).length = r.length + 2 := rfl
  have h6 := h.2.2.2.2.2.1
  exact evop h hj hi hX hY (by decide) (by decide) (by decide) (by decide) (by decide) (fun u v M _ _ g1 g2 => x41 (by omega) (g2 rfl) (g1 rfl)) (fun u v M _ _ g1 g2 => y41 (g2 rfl) (g1 rfl)) (fun u v g1 g2 _ => (show bR (if u = 0 then 0 else v) from bIf b0 (g1 rfl)))
theorem ev42 {n0 q1 b wh e len i j : Nat} {r : List Bool} {MX MY : Mem} (h : EvR q1 b wh e len (true :: true :: r) MX MY) (hj : j < len) (hi : i < e) (hX : gA MX (q1 + 1) j = -19) (hY : gA MY 16 (1600 * b + i) = 42) : Ev1 n0 q1 b wh e len (true :: true :: r) (true :: r) i j 1 MX MY := by
  have l : (true :: true :: r).length = r.length + 2 := rfl
  have h6 := h.2.2.2.2.2.1
  exact evop h hj hi hX hY (by decide) (by decide) (by decide) (by decide) (by decide) (fun u v M _ _ g1 g2 => x42 (by omega) (g2 rfl) (g1 rfl)) (fun u v M _ _ g1 g2 => y42 (g2 rfl) (g1 rfl)) (fun u v g1 g2 _ => (show bR (if u = 0 then v else 1) from bIf (g1 rfl) b1))
end
section
/-! ANY CODE, AND A WHOLE FORMULA, ON BOTH SIDES -/
theorem ev1 {n0 q1 b wh e len i j : Nat} {st st' : List Bool} {MX MY : Mem} {c1 c2 : Int32} (h : EvR q1 b wh e len st MX MY) (ht : ty1 (c1, c2) st = some st') (hj : j + (ex1 (c1, c2)).length ≤ len) (hi : i < e) (hX : ∀ t x, (ex1 (c1, c2))[t]? = some x → gA MX (q1 + 1) (j + t) = x) (hY : gA MY 16 (1600 * b + i) = c1) (hY2 : gA MY 17 (1600 * b + i) = c2) : Ev1 n0 q1 b wh e len st st' i j (ex1 (c1, c2)).length MX MY := by
  unfold ty1 at ht
  dsimp only at ht
  by_cases g0 : c1 = 0
  · subst g0
    rw [if_pos rfl] at ht
    have hl : (ex1 (0, c2)).length = 1 := rfl
    by_cases g : st.length < 60 ∧ 0 ≤ c2 ∧ c2 ≤ 9999
    · rw [if_pos g] at ht
      cases ht
      exact evlit h g.1 g.2.1 g.2.2 (by omega) hi (hX 0 c2 rfl) hY hY2
    · rw [if_neg g] at ht
      cases ht
  rw [if_neg g0] at ht
  by_cases g1 : c1 = 1 ∨ c1 = 2 ∨ c1 = 3 ∨ c1 = 4 ∨ c1 = 5 ∨ c1 = 6
  · rw [if_pos g1] at ht
    by_cases g : st.length < 60
    · rw [if_pos g] at ht
      cases ht
      rcases g1 with z | z | z | z | z | z <;> subst z
      · have hl : (ex1 (1, c2)).length = 1 := rfl
        exact evfact (s := 1) h g (by omega) (by omega) hi (hX 0 (-1) rfl) hY
      · have hl : (ex1 (2, c2)).length = 1 := rfl
        exact evfact (s := 2) h g (by omega) (by omega) hi (hX 0 (-2) rfl) hY
      · have hl : (ex1 (3, c2)).length = 1 := rfl
        exact evfact (s := 3) h g (by omega) (by omega) hi (hX 0 (-3) rfl) hY
      · have hl : (ex1 (4, c2)).length = 1 := rfl
        exact evfact (s := 4) h g (by omega) (by omega) hi (hX 0 (-4) rfl) hY
      · have hl : (ex1 (5, c2)).length = 1 := rfl
        exact evfact (s := 5) h g (by omega) (by omega) hi (hX 0 (-5) rfl) hY
      · have hl : (ex1 (6, c2)).length = 1 := rfl
        exact evfact (s := 6) h g (by omega) (by omega) hi (hX 0 (-6) rfl) hY
    · rw [if_neg g] at ht
      cases ht
  rw [if_neg g1] at ht
  by_cases g2 : c1 = 30
  · subst g2
    rw [if_pos rfl] at ht
    have hl : (ex1 (30, c2)).length = 1 := rfl
    by_cases g : st.length < 60
    · rw [if_pos g] at ht
      cases ht
      exact evone h g (by omega) hi (hX 0 1 rfl) hY
    · rw [if_neg g] at ht
      cases ht
  rw [if_neg g2] at ht
  by_cases g3 : c1 = 31 ∨ c1 = 32 ∨ c1 = 33 ∨ c1 = 34 ∨ c1 = 35 ∨ c1 = 36 ∨ c1 = 37
  · rw [if_pos g3] at ht
    rcases st with _ | ⟨_ | _, _ | ⟨_ | _, r⟩⟩ <;> cases ht
    rcases g3 with z | z | z | z | z | z | z <;> subst z
    · have hl : (ex1 (31, c2)).length = 1 := rfl
      exact ev31 h (by omega) hi (hX 0 (-7) rfl) hY
    · have hl : (ex1 (32, c2)).length = 1 := rfl
      exact ev32 h (by omega) hi (hX 0 (-8) rfl) hY
    · have hl : (ex1 (33, c2)).length = 1 := rfl
      exact ev33 h (by omega) hi (hX 0 (-9) rfl) hY
    · have hl : (ex1 (34, c2)).length = 1 := rfl
      exact ev34 h (by omega) hi (hX 0 (-10) rfl) hY
    · have hl : (ex1 (35, c2)).length = 1 := rfl
      exact ev35 h (by omega) hi (hX 0 (-11) rfl) hY
    · have hl : (ex1 (36, c2)).length = 1 := rfl
      exact ev36 h (by omega) hi (hX 0 (-12) rfl) hY
    · have hl : (ex1 (37, c2)).length = 1 := rfl
      exact ev37 h (by omega) hi (hX 0 (-13) rfl) hY
  rw [if_neg g3] at ht
  by_cases g4 : c1 = 38 ∨ c1 = 39 ∨ c1 = 40
  · rw [if_pos g4] at ht
    rcases st with _ | ⟨_ | _, _ | ⟨_ | _, r⟩⟩ <;> cases ht
    rcases g4 with z | z | z <;> subst z
    · have hl : (ex1 (38, c2)).length = 1 := rfl
      exact ev38 h (by omega) hi (hX 0 (-15) rfl) hY
    · have hl : (ex1 (39, c2)).length = 1 := rfl
      exact ev39 h (by omega) hi (hX 0 (-16) rfl) hY
    · have hl : (ex1 (40, c2)).length = 1 := rfl
      exact ev40 h (by omega) hi (hX 0 (-17) rfl) hY
  rw [if_neg g4] at ht
  by_cases g5 : c1 = 41 ∨ c1 = 42
  · rw [if_pos g5] at ht
    rcases st with _ | ⟨_ | _, _ | ⟨_ | _, r⟩⟩ <;> cases ht
    rcases g5 with z | z <;> subst z
    · have hl : (ex1 (41, c2)).length = 1 := rfl
      exact ev41 h (by omega) hi (hX 0 (-18) rfl) hY
    · have hl : (ex1 (42, c2)).length = 1 := rfl
      exact ev42 h (by omega) hi (hX 0 (-19) rfl) hY
  rw [if_neg g5] at ht
  by_cases g6 : c1 = 43
  · subst g6
    rw [if_pos rfl] at ht
    have hl : (ex1 (43, c2)).length = 2 := rfl
    rcases st with _ | ⟨_ | _, r⟩
    · cases ht
    · cases ht
    · dsimp only at ht
      by_cases g : r.length < 59
      · rw [if_pos g] at ht
        cases ht
        exact evnot h g (by omega) hi (hX 0 0 rfl) (hX 1 (-17) rfl) hY
      · rw [if_neg g] at ht
        cases ht
  rw [if_neg g6] at ht
  by_cases g7 : c1 = 44
  · subst g7
    rw [if_pos rfl] at ht
    have hl : (ex1 (44, c2)).length = 1 := rfl
    rcases st with _ | ⟨_ | _, _ | ⟨_ | _, _ | ⟨_ | _, r⟩⟩⟩ <;> cases ht
    exact evif h (by omega) hi (hX 0 (-14) rfl) hY
  rw [if_neg g7] at ht
  cases ht
end
section
/-! A WHOLE FORMULA ON BOTH SIDES -/
theorem evL {n0 q1 b wh e len : Nat} : ∀ (δ : List (Int32 × Int32)) (st st' : List Bool) (i j : Nat) (MX MY : Mem), EvR q1 b wh e len st MX MY → tyL δ st = some st' → j + (exL δ).length = len → i + δ.length = e → (∀ t x, (exL δ)[t]? = some x → gA MX (q1 + 1) (j + t) = x) → (∀ (t : Nat) (c : Int32 × Int32), δ[t]? = some c → gA MY 16 (1600 * b + (i + t)) = c.1 ∧ gA MY 17 (1600 * b + (i + t)) = c.2) →
    ∃ MX' MY', (∀ w, vL n0 q1 (w + (exL δ).length) (nI j) MX = vL n0 q1 w (nI len) MX') ∧ (∀ w, rL n0 (w + δ.length) (nI wh) (nI st.length) (nI (1600 * b + i)) MY = rL n0 w (nI wh) (nI st'.length) (nI (1600 * b + e)) MY') ∧ EvR q1 b wh e len st' MX' MY' ∧ VX MX MX' ∧ VY MY MY'
  | [], st, st', i, j, MX, MY, h, ht, hj, hi, _, _ => by
    have e1 : (exL []).length = 0 := rfl
    have e2 : ([] : List (Int32 × Int32)).length = 0 := rfl
    have ht2 : some st = some st' := ht
    cases ht2
    exact ⟨MX, MY, fun w => by rw [show j = len by omega]; rfl, fun w => by rw [show i = e by omega]; rfl, h, VX.r, VY.r⟩
  | (c1, c2) :: δ, st, st', i, j, MX, MY, h, ht, hj, hi, hX, hY => by
    have ee : exL ((c1, c2) :: δ) = ex1 (c1, c2) ++ exL δ := rfl
    have el : ((c1, c2) :: δ).length = δ.length + 1 := rfl
    have ht2 : (ty1 (c1, c2) st).bind (tyL δ) = some st' := ht
    obtain ⟨st1, k1, k2⟩ := Option.bind_eq_some_iff.mp ht2
    rw [ee, List.length_append] at hj
    have y0 := hY 0 (c1, c2) rfl
    obtain ⟨M1, N1, a1, a2, a3, a4, a5⟩ := ev1 (n0 := n0) (j := j) (i := i) h k1 (by omega) (by omega) (fun t x hx => hX t x (by rw [ee]; exact (List.getElem?_append_left (List.getElem?_eq_some_iff.mp hx).1).trans hx)) y0.1 y0.2
    have q8 := h.1
    obtain ⟨M2, N2, d1, d2, d3, d4, d5⟩ := evL (n0 := n0) δ st1 st' (i + 1) (j + (ex1 (c1, c2)).length) M1 N1 a3 k2 (by omega) (by omega) (fun t x hx => by
      rw [a4.2.2.2.1 _ (by omega), Nat.add_assoc]
      exact hX _ x (by rw [ee, List.getElem?_append_right (by omega), Nat.add_sub_cancel_left]; exact hx)) (fun t c hc => by
      rw [a5.2.2.1, Nat.add_assoc i 1 t, Nat.add_comm 1 t]
      exact hY (t + 1) c hc)
    refine ⟨M2, N2, fun w => ?_, fun w => ?_, d3, a4.tr d4, a5.tr d5⟩
    · rw [ee, List.length_append, Nat.add_comm (ex1 (c1, c2)).length, ← Nat.add_assoc, a1]
      exact d1 w
    · rw [el, ← Nat.add_assoc, a2]
      exact d2 w
end
section
/-! AN HOUR OUT OF A VALUE, ON BOTH SIDES -/
def hr (a : Int) : Int := if 0 ≤ a then (if a ≤ 23 then a else 23) else 0
theorem hr_r (a : Int) : 0 ≤ hr a ∧ hr a ≤ 23 := by
  unfold hr
  by_cases g : 0 ≤ a
  · rw [if_pos g]
    by_cases g2 : a ≤ 23
    · rw [if_pos g2]; omega
    · rw [if_neg g2]; omega
  · rw [if_neg g]; omega
theorem zl23 : (23 : Int64) = zL 23 := by decide
theorem zi23 : (23 : Int32) = zI 23 := by decide
theorem yhour {n0 : Nat} {a : Int} {M : Mem} (ha : mR a) : fX12_hour_29 n0 (zL a) M = some (zI (hr a), M) := by
  have c1 := lgc_ge ha.l m0.l
  have c2 := lgc_le ha.l (show lR 23 by unfold lR; omega)
  unfold fX12_hour_29 hr
  rw [zl0, zl23]
  by_cases g : 0 ≤ a
  · rw [if_pos g]
    refine eq_t (c1.mpr g) ?_
    by_cases g2 : a ≤ 23
    · rw [if_pos g2]
      refine eq_t (c2.mpr g2) ?_
      rw [zL_int ha.i.1 ha.i.2]
    · rw [if_neg g2]
      refine eq_f (fun z => g2 (c2.mp z)) ?_
      rw [zi23]
  · rw [if_neg g]
    refine eq_f (fun z => g (c1.mp z)) ?_
    rw [zi0]
theorem xhour {n0 : Nat} {a : Int} {M : Mem} (ha : mR a) : fX1_hourNow_57 n0 (zI a) M = some (zI (hr a), M) := by
  have c1 : zI a < zI 23 ↔ a < 23 := zI_lt ha.i.1 ha.i.2 (by omega) (by omega)
  have c2 : zI 0 < zI a ↔ 0 < a := zI_lt (by omega) (by omega) ha.i.1 ha.i.2
  have c3 : zI 0 < zI 23 := (zI_lt (by omega) (by omega) (by omega) (by omega)).mpr (by omega)
  have e : imax 0 (imin 23 (zI a)) = zI (hr a) := by
    unfold imax imin hr
    rw [zi0, zi23]
    by_cases g : a < 23
    · rw [if_pos (c1.mpr g)]
      by_cases g2 : 0 < a
      · rw [if_pos (c2.mpr g2), if_pos (by omega), if_pos (by omega)]
      · rw [if_neg (fun z => g2 (c2.mp z))]
        by_cases g3 : 0 ≤ a
        · rw [if_pos g3, if_pos (by omega), show a = 0 by omega]
        · rw [if_neg g3]
    · rw [if_neg (fun z => g (c1.mp z)), if_pos c3, if_pos (by omega)]
      by_cases g3 : a ≤ 23
      · rw [if_pos g3, show a = 23 by omega]
      · rw [if_neg g3]
  unfold fX1_hourNow_57
  rw [e]
end
section
/-! THE FACTS LAID BY THE CLASS -/
def xLay (w h c m e l : Int32) (M : Mem) : Mem := sI (sA (sA (sA (sA (sA (sA M 8 0 w) 8 1 h) 8 2 c) 8 3 m) 8 4 e) 8 5 l) 903 0
theorem xlayT {n0 q1 q t : Nat} {M : Mem} (hq : gR M 896 = q) (q8 : ¬ q + 3 = 8) (ht : t < 6) (h8 : gI M 898 = nI t) : fX1_valueOf_19 n0 q1 0 M = vL n0 q1 n0 (nI 0) (xLay (gA M (q + 2) t) (gI M 899) (gI M 897) (gI M 900) 0 (gA M (q + 3) t) M) := by
  have c : (nI t).toNatClampNeg = t := nI_clamp (by omega)
  have o : ¬ oob (gI M 898) 6 := by rw [h8]; exact nI_in ht (by decide)
  unfold fX1_valueOf_19 fX1_valueOf_45 fX1_valueOf_90 fX1_valueOf_116
  refine eq_t rfl (eq_f o (eq_f (by decide) (eq_n (eq_f (by decide) (eq_n (eq_f (by decide) (eq_n (eq_f (by decide) (eq_n (eq_t rfl (eq_f (by decide) (eq_n (eq_t rfl (eq_f o (eq_f (by decide) (eq_n (eq_n ?_)))))))))))))))))
  unfold xLay
  rw [h8, hq, c]
  simp only [gI_sA, h8, c]
  rw [show ∀ N : Mem, gR (sA (sA (sA (sA (sA N 8 (Int32.toNatClampNeg 0) (gA M (q + 2) t)) 8 (Int32.toNatClampNeg 1) (gI M 899)) 8 (Int32.toNatClampNeg 2) (gI M 897)) 8 (Int32.toNatClampNeg 3) (gI M 900)) 8 (Int32.toNatClampNeg 4) 0) 896 = gR N 896 from fun _ => rfl, hq]
  rw [gA_sA_ne q8, gA_sA_ne q8, gA_sA_ne q8, gA_sA_ne q8, gA_sA_ne q8]
  rfl
theorem xlayN {n0 q1 : Nat} {M : Mem} : fX1_valueOf_19 n0 q1 1 M = vL n0 q1 n0 (nI 0) (xLay 0 (gI M 899) (gI M 897) (gI M 900) 1 0 M) := by
  unfold fX1_valueOf_19 fX1_valueOf_45 fX1_valueOf_90 fX1_valueOf_116
  refine eq_f (by decide) (eq_f (by decide) (eq_n (eq_f (by decide) (eq_n (eq_f (by decide) (eq_n (eq_f (by decide) (eq_n (eq_f (by decide) (eq_f (by decide) (eq_n (eq_f (by decide) (eq_f (by decide) (eq_n (eq_n ?_)))))))))))))))
  rfl
theorem xvalT {n0 q1 q t nt : Nat} {M : Mem} (hq : gR M 896 = q) (q8 : ¬ q + 3 = 8) (hn : gI M (128 * q + 1) = nI nt) (hnt : nt ≤ 6) (ht : t < nt) (h8 : gI M 898 = nI t) : fX1_valueOf n0 q1 M = vL n0 q1 n0 (nI 0) (xLay (gA M (q + 2) t) (gI M 899) (gI M 897) (gI M 900) 0 (gA M (q + 3) t) M) := by
  have e : fX9_isThing n0 (gR M 896) (gI M 898) M = some (1, M) := by
    unfold fX9_isThing
    rw [hq, h8, hn]
    exact eq_f (fun z => absurd (show oob (nI t) 6 from Or.inl z) (nI_in (by omega) (by decide))) (eq_f (nI_ge ht (by omega)) rfl)
  unfold fX1_valueOf
  exact eq_b e (eq_f (show ¬ (1 : Int32) = 0 by decide) (xlayT hq q8 (by omega) h8))
theorem xvalN {n0 q1 : Nat} {M : Mem} (h8 : gI M 898 = -1) : fX1_valueOf n0 q1 M = vL n0 q1 n0 (nI 0) (xLay 0 (gI M 899) (gI M 897) (gI M 900) 1 0 M) := by
  have e : fX9_isThing n0 (gR M 896) (gI M 898) M = some (0, M) := by
    unfold fX9_isThing
    rw [h8]
    exact eq_t (by decide) rfl
  unfold fX1_valueOf
  exact eq_b e (eq_t rfl xlayN)
end
section
/-! THE FACTS LAID BY THE REFERENCE; A FORMULA'S VALUE ON BOTH SIDES -/
theorem oF {k n : Nat} (h : k < n) (hn : n < 2 ^ 31) : oob (nI k) n = False := eq_false (nI_in h hn)
theorem nz (k : Nat) : nI k = zI k := (Int32.ofInt_eq_ofNat (n := k)).symm
def yLay (w h c m e l : Int32) (M : Mem) : Mem := sA (sA (sA (sA (sA (sA M 35 1 w) 35 2 h) 35 3 c) 35 4 m) 35 5 e) 35 6 l
theorem yIx (v c : Nat) : (5 : Int32) * nI v + nI c = nI (5 * v + c) := by
  rw [show (5 : Int32) = nI 5 from rfl, nI_mul, nI_add]
theorem y6Ix (b t : Nat) : (6 : Int32) * nI b + nI t = nI (6 * b + t) := by
  rw [show (6 : Int32) = nI 6 from rfl, nI_mul, nI_add]
theorem y2Ix (b t : Nat) : (2 : Int32) * nI b + nI t = nI (2 * b + t) := by
  rw [show (2 : Int32) = nI 2 from rfl, nI_mul, nI_add]
theorem ylayT {n0 v c t b : Nat} {M : Mem} (hv : v < 22) (hc : c < 5) (hb : b ≤ 1) (h13 : gI M 13 = nI b) (ht : t < 6) (h29 : gA M 29 (5 * v + c) = nI t) : fX12_lays n0 (nI v) (nI c) M = some (yLay (gA M 3 (6 * b + t)) (gA M 30 (5 * v + c)) (nI c) (gA M 28 v) 0 (gA M 4 (6 * b + t)) M) := by
  have o1 : ¬ oob (nI (5 * v + c)) 110 := nI_in (by omega) (by decide)
  have o2 : ¬ oob (nI (6 * b + t)) 12 := nI_in (by omega) (by decide)
  have o3 : ¬ oob (nI v) 22 := nI_in (by omega) (by decide)
  have c1 : (nI (5 * v + c)).toNatClampNeg = 5 * v + c := nI_clamp (by omega)
  have c2 : (nI (6 * b + t)).toNatClampNeg = 6 * b + t := nI_clamp (by omega)
  have c3 : (nI v).toNatClampNeg = v := nI_clamp (by omega)
  have hm : ¬ nI t = -1 := nI_m1 (by omega)
  unfold fX12_lays fX12_lays_39 fX12_lays_90 fX12_lays_120
  simp only [yIx, c1, h29, h13, y6Ix, c2, c3, gI_sA]
  refine eq_f o1 (eq_n (eq_f hm (eq_f (by rw [y6Ix]; exact o2) (eq_f (by decide) (eq_n (eq_f o1 (eq_f (by decide) (eq_n (eq_f (by decide) (eq_n (eq_f o3 (eq_f (by decide) (eq_n (eq_f hm (eq_f (by decide) (eq_n (eq_f hm (eq_f ?_ (eq_f (by decide) ?_)))))))))))))))))))
  · simp only [gI_sA, h13, y6Ix]; exact o2
  · unfold yLay
    simp only [gI_sA, h13, y6Ix, c2]
    rw [gA_sA_ne (by decide), gA_sA_ne (by decide), gA_sA_ne (by decide), gA_sA_ne (by decide), gA_sA_ne (by decide), gA_sA_ne (by decide), gA_sA_ne (by decide), gA_sA_ne (by decide), gA_sA_ne (by decide)]
    rfl
theorem ylayN {n0 v c : Nat} {M : Mem} (hv : v < 22) (hc : c < 5) (h29 : gA M 29 (5 * v + c) = -1) : fX12_lays n0 (nI v) (nI c) M = some (yLay 0 (gA M 30 (5 * v + c)) (nI c) (gA M 28 v) 1 0 M) := by
  have o1 : ¬ oob (nI (5 * v + c)) 110 := nI_in (by omega) (by decide)
  have o3 : ¬ oob (nI v) 22 := nI_in (by omega) (by decide)
  have c1 : (nI (5 * v + c)).toNatClampNeg = 5 * v + c := nI_clamp (by omega)
  have c3 : (nI v).toNatClampNeg = v := nI_clamp (by omega)
  unfold fX12_lays fX12_lays_39 fX12_lays_90 fX12_lays_120
  simp only [yIx, c1, h29, c3, gI_sA]
  refine eq_f o1 (eq_n (eq_t rfl (eq_f (by decide) (eq_n (eq_f o1 (eq_f (by decide) (eq_n (eq_f (by decide) (eq_n (eq_f o3 (eq_f (by decide) (eq_n (eq_t rfl (eq_f (by decide) (eq_n (eq_t rfl (eq_f (by decide) ?_)))))))))))))))))
  unfold yLay
  rw [gA_sA_ne (by decide), gA_sA_ne (by decide), gA_sA_ne (by decide), gA_sA_ne (by decide)]
  rfl
/-- the facts laid on both sides, and a formula that is told -/
theorem valP {n0 q b C wh : Nat} {MX MY : Mem} (f : Nat → Nat) (hn : 1700 ≤ n0) (hq : q = 31 ∨ q = 47) (hb : b ≤ 1) (hwh : wh ≤ 1)
    (hF : ∃ c0 δ, 0 < δ.length ∧ c0 + δ.length ≤ C ∧ xlist MX (q + 12 + 2 * wh) (exL δ) ∧ gA MY 14 (2 * b + wh) = nI c0 ∧ gA MY 15 (2 * b + wh) = nI (c0 + δ.length) ∧ ylist MY b c0 δ ∧ tyL δ [] = some [decide (wh = 1)] ∧ (exL δ).length ≤ 1600) (hC : C ≤ 1600)
    (h13 : gI MY 13 = nI b) (hX : ∀ s, s < 6 → gA MX 8 s = nI (f s)) (hY : ∀ s, s < 6 → gA MY 35 (s + 1) = nI (f s)) (hf : ∀ s, s < 6 → f s ≤ 1000000) (h9 : gI MX 903 = 0) :
    ∃ a MX' MY', vL n0 (q + 12 + 2 * wh) n0 (nI 0) MX = some (zI a, MX') ∧ fX12_reckons n0 (nI wh) MY = some (zL a, MY') ∧ mR a ∧ (wh = 1 → bR a) ∧ VX MX MX' ∧ VY MY MY' := by
  obtain ⟨c0, δ, d1, d2, ⟨dx1, dx2⟩, d3, d4, d5, d6, d7⟩ := hF
  have hE : EvR (q + 12 + 2 * wh) b wh (c0 + δ.length) (exL δ).length [] MX MY := by
    refine ⟨by omega, by omega, dx1, d7, h9, by decide, trivial, ⟨h13, hb, hwh, d4, by omega⟩, fun s s1 s2 => ⟨f (s - 1), ?_, ?_, ?_⟩⟩
    · rw [hX _ (by omega), nz]
    · have := hY (s - 1) (by omega)
      rw [show s - 1 + 1 = s by omega] at this
      rw [this, nz]
    · have := hf (s - 1) (by omega)
      unfold mR
      omega
  obtain ⟨MX', MY', e1, e2, ⟨_, _, g1, _, g2, _, ⟨⟨a, a1, a2, a3, a4⟩, _⟩, hH, _⟩, v1, v2⟩ := evL (n0 := n0) δ [] [decide (wh = 1)] c0 0 MX MY hE d6 (by omega) rfl (fun t x hx => by
    obtain ⟨ht, rfl⟩ := List.getElem?_eq_some_iff.mp hx
    rw [Nat.zero_add]
    exact dx2 t ht) (fun t c hc => by
    obtain ⟨ht, rfl⟩ := List.getElem?_eq_some_iff.mp hc
    exact d5 t ht)
  refine ⟨a, MX', MY', ?_, ?_, a3, fun h => a4 (by rw [h]; rfl), v1, v2⟩
  · have k1 := e1 (n0 - (exL δ).length)
    rw [show n0 - (exL δ).length + (exL δ).length = n0 by omega] at k1
    rw [k1, show n0 - (exL δ).length = n0 - (exL δ).length - 1 + 1 by omega, xend (k := 1) g2 (by decide) (by rw [g1]; exact Int32.le_refl _)]
    exact congrArg (fun z => some (z, MX')) a1
  · have k1 := e2 (n0 - δ.length)
    rw [show n0 - δ.length + δ.length = n0 by omega] at k1
    unfold fX12_reckons
    have o1 : ¬ oob ((2 : Int32) * gI MY 13 + nI wh) 4 := by rw [h13, y2Ix]; exact nI_in (by omega) (by decide)
    refine eq_f o1 (eq_e (v' := nI (1600 * b + c0)) ?_ ?_)
    · rw [h13, y2Ix, nI_clamp (by omega), d3, show (1600 : Int32) = nI 1600 from rfl, nI_mul, nI_add]
    · refine Eq.trans k1 ?_
      rw [show n0 - δ.length = n0 - δ.length - 1 + 1 by omega, yend hH]
      exact congrArg (fun z => some (z, MY')) a2
end
section
/-! THE HOUR OF A PALM, AND WHETHER ITS THING IS GONE, ON BOTH SIDES -/
def tOk (nt : Nat) (t : Int32) : Prop := t = -1 ∨ ∃ k, k < nt ∧ t = nI k
/-- what the class may change while it looks for an hour -/
def VX2 (M M' : Mem) : Prop := gR M' = gR M ∧ gL M' = gL M ∧ gB M' = gB M ∧ (∀ a, ¬ (a = 8 ∨ a = 9) → gA M' a = gA M a) ∧ ∀ k, ¬ k = 903 → gI M' k = gI M k
/-- what the reference may change while it looks for an hour -/
def VY2 (M M' : Mem) : Prop := gR M' = gR M ∧ gL M' = gL M ∧ gI M' = gI M ∧ (∀ a, ¬ a = 35 → gA M' a = gA M a) ∧ ∀ a, ¬ a = 34 → gB M' a = gB M a
theorem VX2.r {M : Mem} : VX2 M M := ⟨rfl, rfl, rfl, fun _ _ => rfl, fun _ _ => rfl⟩
theorem VX2.tr {M M' M2 : Mem} (h : VX2 M M') (g : VX2 M' M2) : VX2 M M2 := ⟨g.1.trans h.1, g.2.1.trans h.2.1, g.2.2.1.trans h.2.2.1, fun a z => (g.2.2.2.1 a z).trans (h.2.2.2.1 a z), fun a z => (g.2.2.2.2 a z).trans (h.2.2.2.2 a z)⟩
theorem VX.two {M M' : Mem} (h : VX M M') : VX2 M M' := ⟨h.1, h.2.1, h.2.2.1, fun a z => h.2.2.2.1 a (fun e => z (Or.inr e)), h.2.2.2.2⟩
theorem VY2.r {M : Mem} : VY2 M M := ⟨rfl, rfl, rfl, fun _ _ => rfl, fun _ _ => rfl⟩
theorem VY2.tr {M M' M2 : Mem} (h : VY2 M M') (g : VY2 M' M2) : VY2 M M2 := ⟨g.1.trans h.1, g.2.1.trans h.2.1, g.2.2.1.trans h.2.2.1, fun a z => (g.2.2.2.1 a z).trans (h.2.2.2.1 a z), fun a z => (g.2.2.2.2 a z).trans (h.2.2.2.2 a z)⟩
theorem VY.two {M M' : Mem} (h : VY M M') : VY2 M M' := ⟨h.1, h.2.1, h.2.2.2.1, fun a _ => by rw [h.2.2.1], h.2.2.2.2⟩
theorem xLay_f {w h c m e l : Int32} {M : Mem} : VX2 M (xLay w h c m e l M) := by
  unfold xLay
  refine ⟨rfl, rfl, rfl, fun a z => ?_, fun k z => gI_ne z⟩
  have z8 : a ≠ 8 := fun g => z (Or.inl g)
  show gA (sA (sA (sA (sA (sA (sA M 8 0 w) 8 1 h) 8 2 c) 8 3 m) 8 4 e) 8 5 l) a = gA M a
  rw [gA_sA_ne z8, gA_sA_ne z8, gA_sA_ne z8, gA_sA_ne z8, gA_sA_ne z8, gA_sA_ne z8]
theorem yLay_f {w h c m e l : Int32} {M : Mem} : VY2 M (yLay w h c m e l M) := by
  unfold yLay
  refine ⟨rfl, rfl, rfl, fun a z => ?_, fun a _ => rfl⟩
  rw [gA_sA_ne z, gA_sA_ne z, gA_sA_ne z, gA_sA_ne z, gA_sA_ne z, gA_sA_ne z]
def fac (w h c m e l : Nat) : Nat → Nat
  | 0 => w
  | 1 => h
  | 2 => c
  | 3 => m
  | 4 => e
  | _ => l
theorem xLay_v {w h c m e l : Nat} {M : Mem} : ∀ s, s < 6 → gA (xLay (nI w) (nI h) (nI c) (nI m) (nI e) (nI l) M) 8 s = nI (fac w h c m e l s)
  | 0, _ => rfl
  | 1, _ => rfl
  | 2, _ => rfl
  | 3, _ => rfl
  | 4, _ => rfl
  | 5, _ => rfl
  | n + 6, h => by omega
theorem yLay_v {w h c m e l : Nat} {M : Mem} : ∀ s, s < 6 → gA (yLay (nI w) (nI h) (nI c) (nI m) (nI e) (nI l) M) 35 (s + 1) = nI (fac w h c m e l s)
  | 0, _ => rfl
  | 1, _ => rfl
  | 2, _ => rfl
  | 3, _ => rfl
  | 4, _ => rfl
  | 5, _ => rfl
  | n + 6, h => by omega
theorem exL_pos {δ : List (Int32 × Int32)} (h : 0 < δ.length) : 0 < (exL δ).length := by
  match δ, h with
  | c :: δ, _ =>
    have e : exL (c :: δ) = ex1 c ++ exL δ := rfl
    rw [e, List.length_append]
    have : 0 < (ex1 c).length := by
      unfold ex1
      by_cases g : c.1 = 0
      · rw [if_pos g]; exact Nat.zero_lt_one
      · rw [if_neg g]
        by_cases g2 : c.1 = 43
        · rw [if_pos g2]; decide
        · rw [if_neg g2]; exact Nat.zero_lt_one
    omega
theorem hrk (a : Int) : zI (hr a) = nI (hr a).toNat := by rw [nz, Int.toNat_of_nonneg (hr_r a).1]
theorem hrk_le (a : Int) : (hr a).toNat ≤ 23 := by have := hr_r a; omega
/-- both sides look at one palm: corner c, thing t, held h, minute m; layer v of the reference -/
def PmX (q c : Nat) (t : Int32) (h m : Nat) (M : Mem) : Prop := gR M 896 = q ∧ gI M 897 = nI c ∧ gI M 898 = t ∧ gI M 899 = nI h ∧ gI M 900 = nI m
def PmY (b v c : Nat) (t : Int32) (h m : Nat) (M : Mem) : Prop := gI M 13 = nI b ∧ v < 22 ∧ gA M 28 v = nI m ∧ gA M 29 (5 * v + c) = t ∧ gA M 30 (5 * v + c) = nI h
def PmO (nt c : Nat) (t : Int32) (h m : Nat) : Prop := c < 5 ∧ tOk nt t ∧ h ≤ 999 ∧ m ≤ 20000
theorem laidP {n0 q b nt nc nd nr C v c h m : Nat} {t : Int32} {MX MY : Mem} (hT : TownR q b nt nc nd nr C MX MY) (hq : q = 31 ∨ q = 47) (hb : b ≤ 1) (hX : PmX q c t h m MX) (hY : PmY b v c t h m MY) (hO : PmO nt c t h m) :
    ∃ w l e, w ≤ 99 ∧ l ≤ 99 ∧ e ≤ 1 ∧ (∀ q1, fX1_valueOf n0 q1 MX = vL n0 q1 n0 (nI 0) (xLay (nI w) (nI h) (nI c) (nI m) (nI e) (nI l) MX)) ∧ fX12_lays n0 (nI v) (nI c) MY = some (yLay (nI w) (nI h) (nI c) (nI m) (nI e) (nI l) MY) ∧ (t = -1 → w = 0) ∧ (∀ k, k < nt → t = nI k → gA MX (q + 2) k = nI w ∧ gA MX (q + 3) k = nI l) := by
  obtain ⟨x0, x1, x2, x3, x4⟩ := hX
  obtain ⟨y0, hv, y1, y2, y3⟩ := hY
  obtain ⟨hc, ht, hh, hm⟩ := hO
  have hnt : nt ≤ 6 := hT.1.1.2.2.1
  rcases ht with ht | ⟨k, hk, ht⟩
  · refine ⟨0, 0, 1, by omega, by omega, by omega, fun q1 => ?_, ?_, fun _ => rfl, fun k hk e => absurd (e.symm.trans ht) (nI_m1 (by omega))⟩
    · rw [xvalN (x2.trans ht), x3, x1, x4]; rfl
    · rw [ylayN hv hc (y2.trans ht), y3, y1]; rfl
  · obtain ⟨t1, ⟨w, w1, w2⟩, t2, ⟨l, _, l1, l2⟩⟩ := hT.2.1 k hk
    refine ⟨w, l, 0, w1, l1, by omega, fun q1 => ?_, ?_, fun e => absurd (ht.symm.trans e) (nI_m1 (by omega)), fun k' hk' e => ?_⟩
    · rw [xvalT x0 (by omega) hT.1.1.1 hnt hk (x2.trans ht), x3, x1, x4, w2, l2]; rfl
    · rw [ylayT hv hc hb y0 (by omega) (y2.trans ht), y3, y1, show gA MY 3 (6 * b + k) = nI w from t1.symm.trans w2, show gA MY 4 (6 * b + k) = nI l from t2.symm.trans l2]; rfl
    · have : k' = k := (nI_eq (by omega) (by omega)).mp (e.symm.trans ht)
      rw [this]
      exact ⟨w2, l2⟩
theorem xTold {n0 q1 len : Nat} {M : Mem} (h : gI M (128 * q1 + 1) = nI len) (h1 : 0 < len) (h2 : len ≤ 1600) : fX0_isTold n0 q1 M = some (1, M) := by
  unfold fX0_isTold
  rw [h]
  exact eq_f (nI_ge (a := 0) h1 (by omega)) rfl
theorem xUntold {n0 q1 : Nat} {M : Mem} (h : gI M (128 * q1 + 1) = 0) : fX0_isTold n0 q1 M = some (0, M) := by
  unfold fX0_isTold
  rw [h]
  exact eq_t (by decide) rfl
theorem yTold {n0 b wh : Nat} {M : Mem} (h13 : gI M 13 = nI b) (hb : b ≤ 1) (hw : wh ≤ 1) {c0 : Nat} (hc : c0 ≤ 1600) (h : gA M 14 (2 * b + wh) = nI c0) : fX12_isTold n0 (nI wh) M = some (1, M) := by
  unfold fX12_isTold
  rw [h13]
  simp only [y2Ix]
  refine eq_f (nI_in (by omega) (by decide)) (eq_f ?_ rfl)
  rw [nI_clamp (by omega), h]
  exact nI_m1 (by omega)
theorem yUntold {n0 b wh : Nat} {M : Mem} (h13 : gI M 13 = nI b) (hb : b ≤ 1) (hw : wh ≤ 1) (h : gA M 14 (2 * b + wh) = -1) : fX12_isTold n0 (nI wh) M = some (0, M) := by
  unfold fX12_isTold
  rw [h13]
  simp only [y2Ix]
  refine eq_f (nI_in (by omega) (by decide)) (eq_t ?_ rfl)
  rw [nI_clamp (by omega), h]
theorem hourP {n0 q b nt nc nd nr C v c h m : Nat} {t : Int32} {MX MY : Mem} (hn : 1700 ≤ n0) (hT : TownR q b nt nc nd nr C MX MY) (hq : q = 31 ∨ q = 47) (hb : b ≤ 1) (hX : PmX q c t h m MX) (hY : PmY b v c t h m MY) (hO : PmO nt c t h m) :
    ∃ k MX' MY', k ≤ 23 ∧ fX1_hourNow n0 MX = some (nI k, MX') ∧ fX12_hour n0 (nI v) (nI c) MY = some (nI k, MY') ∧ VX2 MX MX' ∧ VY2 MY MY' := by
  obtain ⟨w, l, e, w1, l1, e1, hx, hy, hw0, hwk⟩ := laidP (n0 := n0) hT hq hb hX hY hO
  obtain ⟨x0, x1, x2, x3, x4⟩ := hX
  obtain ⟨y0, hv, y1, y2, y3⟩ := hY
  obtain ⟨hc, ht, hh, hm⟩ := hO
  have hnt : nt ≤ 6 := hT.1.1.2.2.1
  have fY := yLay_f (w := nI w) (h := nI h) (c := nI c) (m := nI m) (e := nI e) (l := nI l) (M := MY)
  have fX := xLay_f (w := nI w) (h := nI h) (c := nI c) (m := nI m) (e := nI e) (l := nI l) (M := MX)
  have y13 : gI (yLay (nI w) (nI h) (nI c) (nI m) (nI e) (nI l) MY) 13 = nI b := (congrFun fY.2.2.1 13).trans y0
  rcases hT.2.2.2.2.2.2.1 with ⟨f1, f2⟩ | ⟨c0, δ, d1, d2, ⟨dx1, dx2⟩, d3, d4, d5, d6, d7⟩
  · refine ⟨(hr w).toNat, MX, _, hrk_le _, ?_, ?_, VX2.r, fY⟩
    · unfold fX1_hourNow
      rw [x0]
      refine eq_b (xUntold f1) (eq_t rfl ?_)
      rw [← hrk]
      have ew : mR (w : Int) := by unfold mR; omega
      rcases ht with ht | ⟨k, hk, ht⟩
      · have e0 : fX9_isThing n0 (gR MX 896) (gI MX 898) MX = some (0, MX) := by
          unfold fX9_isThing
          rw [x2.trans ht]
          exact eq_t (by decide) rfl
        refine eq_b e0 (eq_t rfl ?_)
        rw [hw0 ht]
        exact xhour (a := 0) (by unfold mR; omega)
      · have e0 : fX9_isThing n0 (gR MX 896) (gI MX 898) MX = some (1, MX) := by
          unfold fX9_isThing
          rw [x0, x2.trans ht, hT.1.1.1]
          exact eq_f (fun z => absurd (show oob (nI k) 6 from Or.inl z) (nI_in (by omega) (by decide))) (eq_f (nI_ge hk (by omega)) rfl)
        refine eq_b e0 (eq_f (show ¬ (1 : Int32) = 0 by decide) (eq_f ?_ (eq_n ?_)))
        · show ¬ oob (gI MX 898) 6
          rw [x2.trans ht]
          exact nI_in (by omega) (by decide)
        · show fX1_hourNow_57 n0 (gA MX (gR MX 896 + 2) (gI MX 898).toNatClampNeg) MX = _
          rw [x0, x2.trans ht, nI_clamp (by omega), (hwk k hk ht).1, nz]
          exact xhour ew
    · unfold fX12_hour
      refine eq_b hy (eq_b (yUntold (wh := 0) y13 hb (by decide) (by rw [fY.2.2.2.1 14 (by decide)]; exact f2)) (eq_t rfl (eq_f (by decide) ?_)))
      show fX12_hour_29 n0 (nI w).toInt64 _ = _
      have ew : mR (w : Int) := by unfold mR; omega
      rw [nz w, zI_long ew.i.1 ew.i.2, ← hrk]
      exact yhour ew
  · have hC := hT.2.2.2.2.2.2.2.2
    obtain ⟨a, MX', MY', v1, v2, v3, _, v5, v6⟩ := valP (n0 := n0) (q := q) (b := b) (C := C) (wh := 0) (MX := xLay (nI w) (nI h) (nI c) (nI m) (nI e) (nI l) MX) (MY := yLay (nI w) (nI h) (nI c) (nI m) (nI e) (nI l) MY) (fac w h c m e l) hn hq hb (by decide)
      ⟨c0, δ, d1, d2, ⟨(fX.2.2.2.2 _ (by omega)).trans dx1, fun i hi => by rw [fX.2.2.2.1 _ (by omega)]; exact dx2 i hi⟩, by rw [fY.2.2.2.1 14 (by decide)]; exact d3, by rw [fY.2.2.2.1 15 (by decide)]; exact d4, fun i hi => by rw [fY.2.2.2.1 16 (by decide), fY.2.2.2.1 17 (by decide)]; exact d5 i hi, d6, d7⟩ hC y13 xLay_v yLay_v (fun s hs => by match s, hs with | 0, _ => show w ≤ _; omega | 1, _ => show h ≤ _; omega | 2, _ => show c ≤ _; omega | 3, _ => show m ≤ _; omega | 4, _ => show e ≤ _; omega | 5, _ => show l ≤ _; omega | n + 6, z => omega) rfl
    refine ⟨(hr a).toNat, MX', MY', hrk_le _, ?_, ?_, fX.tr v5.two, fY.tr v6.two⟩
    · unfold fX1_hourNow
      rw [x0]
      refine eq_b (xTold dx1 (exL_pos d1) d7) (eq_f (show ¬ (1 : Int32) = 0 by decide) ?_)
      show Option.bind (fX1_valueOf n0 (gR MX 896 + 12) MX) _ = _
      rw [x0]
      refine eq_b ((hx _).trans v1) ?_
      rw [← hrk]
      exact xhour v3
    · unfold fX12_hour
      refine eq_b hy (eq_b (yTold (wh := 0) (c0 := c0) y13 hb (by decide) (by omega) (by rw [fY.2.2.2.1 14 (by decide)]; exact d3)) (eq_f (show ¬ (1 : Int32) = 0 by decide) (eq_b v2 ?_)))
      rw [← hrk]
      exact yhour v3
/-- whether the thing that the class looks at is gone -/
abbrev xTst (n0 : Nat) (M : Mem) : Option Mem :=
  (fX0_isTold n0 ((gR M 896) + 14) M).bind fun z54 =>
    if z54.1 = 0 then
      if oob (gI z54.2 898) 6 then none else
      if (gI z54.2 899) < (gA z54.2 ((gR z54.2 896) + 3) (Int32.toNatClampNeg (gI z54.2 898))) then
        fX1_goOn_106 n0 (0 : Int32) z54.2
      else
        fX1_goOn_106 n0 (1 : Int32) z54.2
    else
      (fX1_valueOf n0 ((gR z54.2 896) + 14) z54.2).bind fun z68 =>
      if z68.1 = 0 then
        fX1_goOn_106 n0 (0 : Int32) z68.2
      else
        fX1_goOn_106 n0 (1 : Int32) z68.2
theorem goneP {n0 q b nt nc nd nr C v c h m : Nat} {t : Int32} {MX MY : Mem} (hn : 1700 ≤ n0) (hT : TownR q b nt nc nd nr C MX MY) (hq : q = 31 ∨ q = 47) (hb : b ≤ 1) (hX : PmX q c t h m MX) (hY : PmY b v c t h m MY) (hO : PmO nt c t h m) (hne : ¬ t = -1) :
    ∃ (g : Bool) (MX' MY' : Mem), xTst n0 MX = fX1_goOn_106 n0 (bI (g = true)) MX' ∧ fX12_isGone n0 (nI v) (nI c) MY = some (bI (g = true), MY') ∧ VX2 MX MX' ∧ VY2 MY MY' := by
  obtain ⟨w, l, e, w1, l1, e1, hx, hy, hw0, hwk⟩ := laidP (n0 := n0) hT hq hb hX hY hO
  obtain ⟨x0, x1, x2, x3, x4⟩ := hX
  obtain ⟨y0, hv, y1, y2, y3⟩ := hY
  obtain ⟨hc, ht, hh, hm⟩ := hO
  have hnt : nt ≤ 6 := hT.1.1.2.2.1
  obtain ⟨k, hk, ht⟩ : ∃ k, k < nt ∧ t = nI k := by
    rcases ht with ht | ht
    · exact absurd ht hne
    · exact ht
  have fY := yLay_f (w := nI w) (h := nI h) (c := nI c) (m := nI m) (e := nI e) (l := nI l) (M := MY)
  have fX := xLay_f (w := nI w) (h := nI h) (c := nI c) (m := nI m) (e := nI e) (l := nI l) (M := MX)
  have y13 : gI (yLay (nI w) (nI h) (nI c) (nI m) (nI e) (nI l) MY) 13 = nI b := (congrFun fY.2.2.1 13).trans y0
  have o1 : ¬ oob ((5 : Int32) * nI v + nI c) 110 := by rw [yIx]; exact nI_in (by omega) (by decide)
  have n1 : ¬ gA (yLay (nI w) (nI h) (nI c) (nI m) (nI e) (nI l) MY) 29 ((5 : Int32) * nI v + nI c).toNatClampNeg = -1 := by
    rw [fY.2.2.2.1 29 (by decide), yIx, nI_clamp (by omega), y2]
    exact hne
  rcases hT.2.2.2.2.2.2.2.1 with ⟨f1, f2⟩ | ⟨c0, δ, d1, d2, ⟨dx1, dx2⟩, d3, d4, d5, d6, d7⟩
  · refine ⟨decide (¬ h < l), MX, _, ?_, ?_, VX2.r, fY⟩
    · unfold xTst
      rw [x0]
      refine eq_b (xUntold f1) (eq_t rfl (eq_f ?_ ?_))
      · show ¬ oob (gI MX 898) 6
        rw [x2.trans ht]
        exact nI_in (by omega) (by decide)
      · show (if gI MX 899 < gA MX (gR MX 896 + 3) (gI MX 898).toNatClampNeg then _ else _) = _
        have q1 : gA MX (gR MX 896 + 3) (gI MX 898).toNatClampNeg = nI l := by rw [x0, x2.trans ht, nI_clamp (by omega)]; exact (hwk k hk ht).2
        rw [q1, x3]
        by_cases g : h < l
        · rw [bI_f (by simp [g])]
          exact eq_t (nI_lt g (by omega)) rfl
        · rw [bI_t (by simp [g])]
          exact eq_f (fun z => g ((nI_ltI (by omega) (by omega)).mp z)) rfl
    · unfold fX12_isGone
      refine eq_b hy (eq_f o1 (eq_f n1 (eq_b (yUntold (wh := 1) y13 hb (by decide) (by rw [fY.2.2.2.1 14 (by decide)]; exact f2)) (eq_t rfl (eq_f (by decide) (eq_f (by decide) ?_))))))
      show (if nI h < nI l then _ else _) = _
      by_cases g : h < l
      · rw [bI_f (by simp [g])]
        exact eq_t (nI_lt g (by omega)) rfl
      · rw [bI_t (by simp [g])]
        exact eq_f (fun z => g ((nI_ltI (by omega) (by omega)).mp z)) rfl
  · have hC := hT.2.2.2.2.2.2.2.2
    obtain ⟨a, MX', MY', v1, v2, v3, v4, v5, v6⟩ := valP (n0 := n0) (q := q) (b := b) (C := C) (wh := 1) (MX := xLay (nI w) (nI h) (nI c) (nI m) (nI e) (nI l) MX) (MY := yLay (nI w) (nI h) (nI c) (nI m) (nI e) (nI l) MY) (fac w h c m e l) hn hq hb (by decide)
      ⟨c0, δ, d1, d2, ⟨(fX.2.2.2.2 _ (by omega)).trans dx1, fun i hi => by rw [fX.2.2.2.1 _ (by omega)]; exact dx2 i hi⟩, by rw [fY.2.2.2.1 14 (by decide)]; exact d3, by rw [fY.2.2.2.1 15 (by decide)]; exact d4, fun i hi => by rw [fY.2.2.2.1 16 (by decide), fY.2.2.2.1 17 (by decide)]; exact d5 i hi, d6, d7⟩ hC y13 xLay_v yLay_v (fun s hs => by match s, hs with | 0, _ => show w ≤ _; omega | 1, _ => show h ≤ _; omega | 2, _ => show c ≤ _; omega | 3, _ => show m ≤ _; omega | 4, _ => show e ≤ _; omega | 5, _ => show l ≤ _; omega | n + 6, z => omega) rfl
    have ba := v4 rfl
    refine ⟨decide (a = 1), MX', MY', ?_, ?_, fX.tr v5.two, fY.tr v6.two⟩
    · unfold xTst
      rw [x0]
      refine eq_b (xTold dx1 (exL_pos d1) d7) (eq_f (show ¬ (1 : Int32) = 0 by decide) ?_)
      show Option.bind (fX1_valueOf n0 (gR MX 896 + 14) MX) _ = _
      rw [x0]
      refine eq_b ((hx _).trans v1) ?_
      rcases ba with rfl | rfl
      · rw [bI_f (by decide)]
        exact eq_t rfl rfl
      · rw [bI_t (by decide)]
        exact eq_f (show ¬ zI 1 = 0 by decide) rfl
    · unfold fX12_isGone
      refine eq_b hy (eq_f o1 (eq_f n1 (eq_b (yTold (wh := 1) (c0 := c0) y13 hb (by decide) (by omega) (by rw [fY.2.2.2.1 14 (by decide)]; exact d3)) (eq_f (show ¬ (1 : Int32) = 0 by decide) (eq_b v2 ?_)))))
      rcases ba with rfl | rfl
      · rw [bI_f (by decide)]
        exact eq_f (show ¬ lg_cmp (zL 0) 1 = 0 by decide) rfl
      · rw [bI_t (by decide)]
        exact eq_t (show lg_cmp (zL 1) 1 = 0 by decide) rfl
end
