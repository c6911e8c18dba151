/-! A TOWN IS READ: the start of it on both sides -/
/-- only int arrays are other than before, and of them these cells alone -/
def OnlyA (P : Nat → Nat → Prop) (M M' : Mem) : Prop := gI M' = gI M ∧ gR M' = gR M ∧ gL M' = gL M ∧ gB M' = gB M ∧ ∀ a i, ¬ P a i → gA M' a i = gA M a i
theorem t123 {n0 b a : Nat} {k116 : Int32 → Mem → Option (Int32 × Mem)} (hb : b ≤ 1) (ha : a < 5) : ∀ (w c : Nat) (M : Mem), c ≤ 5 → 5 < w + c → gI M 34 = nI b → ∃ M', loopN (bX12_town_123 n0 k116) (fun _ _ _ => none) w (nI a) (nI c) M = k116 (nI (a + 1)) M' ∧ OnlyA (fun e i => e = 8 ∧ 25 * b + (5 * a + c) ≤ i ∧ i < 25 * b + (5 * a + 5)) M M' ∧ ∀ i, 25 * b + (5 * a + c) ≤ i → i < 25 * b + (5 * a + 5) → gA M' 8 i = 0 := by
  intro w
  induction w with
  | zero => intro c M _ h; omega
  | succ w ih =>
    intro c M hc hw h34
    rw [lpS, bX12_town_123]
    by_cases g : 5 ≤ c
    · refine ⟨M, eq_t (nI_le (a := 5) g (by omega)) (by rw [nI_1]), ⟨rfl, rfl, rfl, rfl, fun _ _ _ => rfl⟩, fun i h1 h2 => by omega⟩
    · have ea : fX12_at n0 (gI M 34) (nI a) (nI c) M = some (nI (25 * b + (5 * a + c)), M) := by rw [h34]; exact yat
      have hcl : (nI (25 * b + (5 * a + c))).toNatClampNeg = 25 * b + (5 * a + c) := nI_clamp (by omega)
      obtain ⟨M', e1, e2, e3⟩ := ih (c + 1) (sA M 8 (25 * b + (5 * a + c)) 0) (by omega) (by omega) h34
      refine ⟨M', eq_f (nI_ge (b := 5) (by omega) (by decide)) (eq_b ea (eq_f (nI_in (by omega) (by decide)) (eq_n ?_))), ⟨e2.1, e2.2.1, e2.2.2.1, e2.2.2.2.1, fun e i h => ?_⟩, fun i h1 h2 => ?_⟩
      · show loopN (bX12_town_123 n0 k116) (fun _ _ _ => none) w (nI a) (nI c + 1) (sA M 8 (nI (25 * b + (5 * a + c))).toNatClampNeg 0) = _
        rw [hcl, nI_1]
        exact e1
      · rw [e2.2.2.2.2 e i (by omega), gA_sA]
        by_cases q : e = 8
        · rw [if_pos q, if_neg (by omega), q]
        · rw [if_neg q]
      · by_cases q : i = 25 * b + (5 * a + c)
        · rw [e2.2.2.2.2 8 i (by omega), gA_sA, if_pos rfl, if_pos q]
        · exact e3 i (by omega) h2
/-- what follows the clearing of the roads -/
def yCont (n0 : Nat) (M : Mem) : Option (Int32 × Mem) := bnd (sI M 33 (0 : Int32)) fun M158 => (fX12_ahead n0 M158).bind fun z164 => fX12_town_167 n0 (0 : Int32) z164
theorem t116 {n0 b : Nat} (hn : 1700 ≤ n0) (hb : b ≤ 1) : ∀ (w a : Nat) (M : Mem), a ≤ 5 → 5 < w + a → gI M 34 = nI b → ∃ M', loopN (bX12_town_116 n0) (fun _ _ => none) w (nI a) M = yCont n0 M' ∧ OnlyA (fun e i => e = 8 ∧ 25 * b + 5 * a ≤ i ∧ i < 25 * b + 25) M M' ∧ ∀ i, 25 * b + 5 * a ≤ i → i < 25 * b + 25 → gA M' 8 i = 0 := by
  intro w
  induction w with
  | zero => intro a M _ h; omega
  | succ w ih =>
    intro a M ha hw h34
    rw [lpS, bX12_town_116]
    by_cases g : 5 ≤ a
    · exact ⟨M, eq_t (nI_le (a := 5) g (by omega)) rfl, ⟨rfl, rfl, rfl, rfl, fun _ _ _ => rfl⟩, fun i h1 h2 => by omega⟩
    · obtain ⟨M1, e1, e2, e3⟩ := t123 (n0 := n0) (k116 := loopN (bX12_town_116 n0) (fun _ _ => none) w) hb (show a < 5 by omega) n0 0 M (by omega) (by omega) h34
      obtain ⟨M2, d1, d2, d3⟩ := ih (a + 1) M1 (by omega) (by omega) (by rw [e2.1]; exact h34)
      refine ⟨M2, eq_f (nI_ge (b := 5) (by omega) (by decide)) (e1.trans d1), ⟨d2.1.trans e2.1, d2.2.1.trans e2.2.1, d2.2.2.1.trans e2.2.2.1, d2.2.2.2.1.trans e2.2.2.2.1, fun e i h => ?_⟩, fun i h1 h2 => ?_⟩
      · rw [d2.2.2.2.2 e i (by omega), e2.2.2.2.2 e i (by omega)]
      · by_cases q : i < 25 * b + (5 * a + 5)
        · rw [d2.2.2.2.2 8 i (by omega)]
          exact e3 i (by omega) q
        · exact d3 i (by omega) h2
/-- the class's memory ahead of its first token -/
def xTown (q : Nat) (M : Mem) : Mem := sI (sI (sI (sI (sI (sI (sI (sI (sI (sI (sI (sI (sR M 130 q) (128 * q + 0) 0) (128 * q + 1) 0) (128 * q + 5) 0) (128 * q + 8) 0) (128 * q + 12) 0) (128 * q + 16) 0) (128 * (q + 12) + 1) 0) (128 * (q + 14) + 1) 0) 391 0) 392 (-1)) 386 259) 390 0
theorem xread {n0 q : Nat} {M MX1 : Mem} (ha : fX8_advance n0 (xTown q M) = some MX1) : fX4_read n0 q M = fX4_read_21 n0 q 0 MX1 := by
  have g : gR (sR M 130 q) 130 = q := by rw [gR_sR, if_pos rfl]
  unfold fX4_read fX9_clear fX8_begin
  refine eq_n ?_
  rw [g]
  exact eq_b rfl (eq_b (eq_n (eq_n (eq_n (eq_n (eq_b ha rfl))))) rfl)
/-- the reference's memory ahead of the clearing of the roads -/
def yTown (b : Nat) (M : Mem) : Mem := sA (sA (sA (sA (sA (sA (sA (sI (sI (sI (sI (sI (sI M 2 (gI M 1)) 1 0) 5 0) 8 0) 9 (-1)) 34 (nI b)) 2 b 0) 5 b 0) 7 b 0) 10 b 0) 13 b 0) 14 (2 * b) (-1)) 14 (2 * b + 1) (-1)
theorem clr {ρ : Type} {M : Mem} {n a j : Nat} {i v : Int32} {k : Mem → Option ρ} {r : Option ρ} (e : i = nI j) (hj : j < 4) (hn : ¬ oob (nI j) n) (h : k (sA M a j v) = r) : (if oob i n then none else bnd (sA M a i.toNatClampNeg v) k) = r := by
  subst e
  refine eq_f hn (eq_n ?_)
  rw [nI_clamp (by omega)]
  exact h
theorem ytown {n0 b : Nat} {M : Mem} (hb : b ≤ 1) (h13 : gI M 13 = nI (1 - b)) : fX12_town n0 M = fX12_town_116 n0 0 (yTown b M) := by
  have e34 : (1 : Int32) - gI (sI (sI (sI (sI (sI M 2 (gI M 1)) 1 0) 5 0) 8 0) 9 (-1)) 13 = nI b := by
    rw [gI_ne (by decide), gI_ne (by decide), gI_ne (by decide), gI_ne (by decide), gI_ne (by decide), h13]
    have : b = 0 ∨ b = 1 := by omega
    rcases this with q | q <;> rw [q] <;> decide
  have o : ¬ oob (nI b) 2 := nI_in (by omega) (by decide)
  have m2 : (2 : Int32) * nI b = nI (2 * b) := by rw [← nI_mul]; rfl
  have m3 : (2 : Int32) * nI b + 1 = nI (2 * b + 1) := by rw [m2]; exact nI_1 _
  have o2 : ¬ oob (nI (2 * b)) 4 := nI_in (by omega) (by decide)
  have o3 : ¬ oob (nI (2 * b + 1)) 4 := nI_in (by omega) (by decide)
  unfold fX12_town yTown
  refine eq_n (eq_n (eq_n (eq_n (eq_n (eq_n ?_)))))
  rw [e34]
  refine clr (j := b) (by simp only [gI_sA, gI_at]) (by omega) o ?_
  refine clr (j := b) (by simp only [gI_sA, gI_at]) (by omega) o ?_
  refine clr (j := b) (by simp only [gI_sA, gI_at]) (by omega) o ?_
  refine clr (j := b) (by simp only [gI_sA, gI_at]) (by omega) o ?_
  refine clr (j := b) (by simp only [gI_sA, gI_at]) (by omega) o ?_
  refine clr (j := 2 * b) ((congrArg (fun z : Int32 => (2 : Int32) * z) (show _ = nI b by simp only [gI_sA, gI_at])).trans m2) (by omega) o2 ?_
  refine clr (j := 2 * b + 1) ((congrArg (fun z : Int32 => (2 : Int32) * z + 1) (show _ = nI b by simp only [gI_sA, gI_at])).trans m3) (by omega) o3 ?_
  rfl
