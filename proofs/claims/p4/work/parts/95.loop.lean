/-! ALL STATEMENTS -/
/-- what the class may change while it reads a town -/
def FX3 (q : Nat) (M M' : Mem) : Prop := (∀ k, ¬ (rgX q k ∨ k = 128 * q) → gI M' k = gI M k) ∧ (∀ a, ¬ (q ≤ a ∧ a < q + 16) → gA M' a = gA M a) ∧ (∀ k, k ≠ 257 → gR M' k = gR M k)
theorem FX3.r {q : Nat} {M : Mem} : FX3 q M M := ⟨fun _ _ => rfl, fun _ _ => rfl, fun _ _ => rfl⟩
theorem FX3.tr {q : Nat} {M M' M2 : Mem} (h : FX3 q M M') (g : FX3 q M' M2) : FX3 q M M2 := ⟨fun k r => (g.1 k r).trans (h.1 k r), fun a r => (g.2.1 a r).trans (h.2.1 a r), fun k r => (g.2.2 k r).trans (h.2.2 k r)⟩
theorem FX2.t {q : Nat} {M M' : Mem} (h : FX2 q M M') : FX3 q M M' := ⟨fun k r => h.1 k (fun g => r (Or.inl g)), h.2⟩
theorem FX3.i {q k : Nat} {v : Int32} {M M' : Mem} (h : FX3 q M M') (hk : rgX q k ∨ k = 128 * q) : FX3 q M (sI M' k v) := ⟨fun j r => by rw [gI_ne (fun e => r (by rw [e]; exact hk))]; exact h.1 j r, h.2.1, h.2.2⟩
theorem FX2.s0 {q : Nat} {M M' : Mem} (h : FX2 q M M') (hq : q = 31 ∨ q = 47) : gI M' (128 * q) = gI M (128 * q) := h.1 _ (by unfold rgX; omega)
theorem rdL {n0 L q b q1 : Nat} (hn : 1700 ≤ n0) : ∀ (w j s nt nc nd nr C : Nat) (MX MY : Mem), Rd L s q b nt nc nd nr C MX MY → gI MX (128 * q) = nI j → j ≤ 80 → (j = 80 → gI MX 386 = 259) → 83 ≤ w + j →
    (∃ MX' MY' s' nt' nc' nd' nr' C' j', loopN (bX4_read_21 n0 q1) (fun _ _ => none) w (nI j) MX = some (1, MX') ∧ loopN (bX12_town_167 n0) (fun _ _ => none) w (nI j) MY = fX12_town_196 n0 (nI j') MY' ∧ j' ≤ 80 ∧ gI MX' 386 = 259 ∧ Rd L s' q b nt' nc' nd' nr' C' MX' MY' ∧ gI MX' (128 * q) = nI j' ∧ FX3 q MX MX' ∧ FY2 b MY MY') ∨
    (∃ MX' MY' j', loopN (bX4_read_21 n0 q1) (fun _ _ => none) w (nI j) MX = some (0, MX') ∧ loopN (bX12_town_167 n0) (fun _ _ => none) w (nI j) MY = fX12_town_196 n0 (nI j') MY' ∧ Flt MX' MY' ∧ FX3 q MX MX' ∧ FY2 b MY MY') := by
  intro w
  induction w with
  | zero => intro j s nt nc nd nr C MX MY _ _ h1 _ h2; omega
  | succ w ih =>
    intro j s nt nc nd nr C MX MY h hj0 hj80 hjE hw
    have hP := h.1
    have hA := h.2.1
    have q7 := hA.2.1
    by_cases h9 : gI MX 386 = 259
    · left
      have y3 : gI MY 3 = 0 := by
        rcases hP.2.1.2.2.2.2 with z | z | z | z | z
        · exact z.2.2.1
        · rw [h9] at z; exact absurd z.1 (by decide)
        · rw [h9] at z; exact absurd z.1 (by decide)
        · rw [h9] at z; exact absurd z.1.2 (by decide)
        · obtain ⟨_, _, _, _, v, w, k, _, hd, e1, _⟩ := z
          exact absurd (e1.symm.trans h9) (kdOf_w hd).2
      refine ⟨MX, MY, s, nt, nc, nd, nr, C, j, ?_, ?_, hj80, h9, h, hj0, FX3.r, FY2.r⟩
      · rw [lpS, bX4_read_21]
        have e80 : fX4_read_80 n0 q1 MX = some (1, MX) := by
          unfold fX4_read_80
          exact eq_t h9 rfl
        exact eq_i (fun _ => e80) (fun _ => eq_t h9 e80)
      · rw [lpS, bX12_town_167]
        exact eq_t hP.f8 (eq_t y3 rfl)
    have hj : j < 80 := by
      rcases Nat.lt_or_ge j 80 with z | z
      · exact z
      · exact absurd (hjE (by omega)) h9
    have g80 : ¬ (80 : Int32) ≤ nI j := nI_ge (b := 80) hj (by decide)
    have y3 : ¬ gI MY 3 = 0 := by
      rcases hP.2.1.2.2.2.2 with z | z | z | z | z
      · exact absurd z.1 h9
      · rcases z.2.2.1 with y | y <;> rw [y] <;> decide
      · rw [z.2.2.1]; decide
      · rw [z.2.2.1]; decide
      · rw [z.2.1]; decide
    obtain ⟨w2, rfl⟩ : ∃ v, w = v + 1 := ⟨w - 1, by omega⟩
    have yend : ∀ (MY1 MY2 : Mem), fX12_statement n0 MY = some MY1 → fX12_finishes n0 (nI (j + 1)) MY1 = some MY2 → ¬ gI MY2 8 = 0 → loopN (bX12_town_167 n0) (fun _ _ => none) (w2 + 1 + 1) (nI j) MY = fX12_town_196 n0 (nI (j + 1)) MY2 := fun MY1 MY2 e1 e2 e3 => by
      rw [lpS, bX12_town_167]
      refine eq_t hP.f8 (eq_f y3 (eq_b e1 ?_))
      rw [nI_1]
      refine eq_b e2 ?_
      rw [lpS, bX12_town_167]
      exact eq_f e3 rfl
    rcases stmtP hn h h9 with (⟨MX1, MY1, s1, nt1, nc1, nd1, nr1, C1, ex, ey, hs1, hR1, fx1, fy1⟩ | ⟨MX1, MY1, ex, ey, hF, fx1, fy1⟩) | ⟨MX1, MY1, ex, ey, k8, f8, f9, fx1, fy1⟩
    · have hP1 := hR1.1
      rcases finP (n := j + 1) hn hP1 (by omega) with ⟨MX2, MY2, ex2, ey2, hF, fx2, fy2⟩ | ⟨MX2, MY2, s2, ex2, ey2, hs2, hP2, fx2, fy2, h80⟩ | ⟨h80, MX2, MY2, s2, ex2, ey2, n9, m387, m8, m9, fx2, fy2⟩
      · right
        refine ⟨MX2, MY2, j + 1, ?_, yend MY1 MY2 ey ey2 (pos_ne hF.pos), hF, fx1.t.tr fx2.q.t, fy1.tr fy2.b⟩
        rw [lpS, bX4_read_21]
        exact eq_f g80 (eq_f h9 (eq_b ex (eq_f i10 (eq_b ex2 (eq_t rfl rfl)))))
      · have g130 : gR MX2 130 = q := by rw [fx2.R]; exact hR1.2.1.1
        have c0 : gI MX2 (128 * q) = nI j := by
          rw [fx2.2 _ (by omega), fx1.s0 q7]
          exact hj0
        have hT2 : TownR q b nt1 nc1 nd1 nr1 C1 MX2 MY2 := hR1.2.2.1.tok q7 fx2 fy2
        have hR3 : Rd L s2 q b nt1 nc1 nd1 nr1 C1 (sI MX2 (128 * q) (nI (j + 1))) MY2 := by
          refine ⟨hP2.cong (fun i h1 h2 => gI_ne (by omega)) (gI_ne (by omega)) rfl rfl (fun _ _ => rfl) rfl rfl, ⟨g130, q7, (fy2.1 34 (by omega)).trans hR1.2.1.2.2.1, hA.2.2.2⟩, hT2.cong (fun i h1 h2 => gI_ne (by omega)) (fun _ _ _ => rfl) (fun _ _ _ _ => rfl) (fun _ _ _ => rfl), (fy2.1 33 (by omega)).trans hR1.2.2.2.1, by have := hR1.2.2.2.2; omega⟩
        have xst : ∀ r, loopN (bX4_read_21 n0 q1) (fun _ _ => none) (w2 + 1) (nI (j + 1)) (sI MX2 (128 * q) (nI (j + 1))) = r → loopN (bX4_read_21 n0 q1) (fun _ _ => none) (w2 + 1 + 1) (nI j) MX = r := fun r hr => by
          rw [lpS, bX4_read_21]
          refine eq_f g80 (eq_f h9 (eq_b ex (eq_f i10 (eq_b ex2 (eq_f i10 (eq_n ?_))))))
          show loopN (bX4_read_21 n0 q1) (fun _ _ => none) (w2 + 1) (nI j + 1) (sI MX2 (128 * gR MX2 130 + 0) (gI MX2 (128 * gR MX2 130 + 0) + 1)) = r
          rw [g130, show 128 * q + 0 = 128 * q from rfl, c0, nI_1]
          exact hr
        have yst : ∀ r, loopN (bX12_town_167 n0) (fun _ _ => none) (w2 + 1) (nI (j + 1)) MY2 = r → loopN (bX12_town_167 n0) (fun _ _ => none) (w2 + 1 + 1) (nI j) MY = r := fun r hr => by
          rw [lpS, bX12_town_167]
          refine eq_t hP.f8 (eq_f y3 (eq_b ey ?_))
          rw [nI_1]
          exact eq_b ey2 hr
        have fxx : FX3 q MX (sI MX2 (128 * q) (nI (j + 1))) := (fx1.t.tr fx2.q.t).i (Or.inr rfl)
        have fyy : FY2 b MY MY2 := fy1.tr fy2.b
        rcases ih (j + 1) s2 nt1 nc1 nd1 nr1 C1 _ MY2 hR3 gI_at (by omega) (fun g => by rw [gI_ne (by omega)]; exact h80 g) (by omega) with ⟨A, B, s', n1, n2, n3, n4, n5, j', z1, z2, z3, z4, z5, z6, z7, z8⟩ | ⟨A, B, j', z1, z2, z3, z4, z5⟩
        · exact Or.inl ⟨A, B, s', n1, n2, n3, n4, n5, j', xst _ z1, yst _ z2, z3, z4, z5, z6, fxx.tr z7, fyy.tr z8⟩
        · exact Or.inr ⟨A, B, j', xst _ z1, yst _ z2, z3, fxx.tr z4, fyy.tr z5⟩
      · right
        have g130 : gR MX2 130 = q := by rw [fx2.R]; exact hR1.2.1.1
        refine ⟨sI (sI (sI MX2 (128 * q + 0) (gI MX2 (128 * q + 0) + 1)) 391 6) 392 (nI s2), MY2, j + 1, ?_, yend MY1 MY2 ey ey2 (by rw [m8]; decide), ⟨6, by decide, by decide, by rw [gI_ne (by decide), gI_at]; rfl, m8, by rw [gI_at]; exact m9⟩, ((((fx1.t.tr fx2.q.t).i (Or.inr (Nat.add_zero _))).i (Or.inl (by unfold rgX; omega))).i (Or.inl (by unfold rgX; omega))), fy1.tr fy2.b⟩
        rw [lpS, bX4_read_21]
        refine eq_f g80 (eq_f h9 (eq_b ex (eq_f i10 (eq_b ex2 (eq_f i10 (eq_n ?_))))))
        show loopN (bX4_read_21 n0 q1) (fun _ _ => none) (w2 + 1) (nI j + 1) (sI MX2 (128 * gR MX2 130 + 0) (gI MX2 (128 * gR MX2 130 + 0) + 1)) = _
        rw [g130, nI_1, lpS, bX4_read_21]
        refine eq_t (by rw [h80]; decide) ?_
        unfold fX4_read_80
        refine eq_f (by rw [gI_ne (by omega)]; exact n9) (eq_b xfail (eq_t rfl ?_))
        show some ((0 : Int32), sI (sI (sI MX2 (128 * q + 0) (gI MX2 (128 * q + 0) + 1)) 391 6) 392 (gI (sI MX2 (128 * q + 0) (gI MX2 (128 * q + 0) + 1)) 387)) = _
        rw [gI_ne (by omega), m387]
    · right
      refine ⟨MX1, MY1, j + 1, ?_, yend MY1 MY1 ey (yfinF hF.pos) (pos_ne hF.pos), hF, fx1.t, fy1⟩
      rw [lpS, bX4_read_21]
      exact eq_f g80 (eq_f h9 (eq_b ex (eq_t rfl rfl)))
    · right
      have p8 : ¬ gI MY1 8 ≤ 0 := by rw [f8]; decide
      refine ⟨sI (sI MX1 391 1) 392 (gI MX1 388), MY1, j + 1, ?_, yend MY1 MY1 ey (yfinF p8) (pos_ne p8), ⟨1, by decide, by decide, by rw [gI_ne (by decide), gI_at]; rfl, f8, by rw [gI_at]; exact f9⟩, (fx1.t.i (Or.inl (by unfold rgX; omega))).i (Or.inl (by unfold rgX; omega)), fy1⟩
      rw [lpS, bX4_read_21]
      exact eq_f g80 (eq_f h9 (eq_b ex (eq_f i10 (eq_b (xskF (by rw [k8]; decide)) (eq_t rfl rfl)))))
