/-! STATEMENTS: says, gone -/
theorem TownR.setF {q b nt nc nd nr C C' wh : Nat} {MX MY MX' MY' : Mem} (h : TownR q b nt nc nd nr C MX MY) (hwh : wh ≤ 1) (h1 : ∀ j, 128 * q ≤ j → j < 128 * q + 2048 → j ≠ 128 * (q + 12 + 2 * wh) + 1 → gI MX' j = gI MX j) (h2 : ∀ a, q ≤ a → a < q + 16 → a ≠ q + 13 + 2 * wh → gA MX' a = gA MX a) (h3 : ∀ a i, ¬ (21 ≤ a) → regA b a i → ¬ ((a = 14 ∨ a = 15) ∧ i = 2 * b + wh) → ¬ ((a = 16 ∨ a = 17) ∧ 1600 * b + C ≤ i) → gA MY' a i = gA MY a i) (h4 : ∀ a i, regB b a i → gB MY' a i = gB MY a i) (hF : FmR q b C' wh MX' MY') (hC : C ≤ C') (hC' : C' ≤ 1600) : TownR q b nt nc nd nr C' MX' MY' := by
  obtain ⟨⟨⟨a1, a2, a3⟩, ⟨a4, a5, a6⟩, ⟨a7, a8, a9⟩⟩, b1, b2, b3, ⟨c1, c2, c3⟩, ⟨p, p1, p2, p3⟩, d1, d2, d3⟩ := h
  have t6 := a3.1
  have c5 := a6.1
  have d6 := a9.1
  have oth : ∀ wo, wo ≤ 1 → wo ≠ wh → FmR q b C wo MX MY → FmR q b C' wo MX' MY' := by
    intro wo h0 hne hf
    unfold FmR xlist at hf ⊢
    rw [h1 _ (by omega) (by omega) (by omega), h2 (q + 12 + 2 * wo + 1) (by omega) (by omega) (by omega), h3 14 _ (by omega) (by unfold regA; omega) (by omega) (by omega), h3 15 _ (by omega) (by unfold regA; omega) (by omega) (by omega)]
    rcases hf with hf | ⟨c0, δ, e1, e2, e3, e4, e5, e6, e7, e8⟩
    · exact Or.inl hf
    · refine Or.inr ⟨c0, δ, e1, by omega, e3, e4, e5, fun i hi => ?_, e7, e8⟩
      rw [h3 16 _ (by omega) (by unfold regA; omega) (by omega) (by omega), h3 17 _ (by omega) (by unfold regA; omega) (by omega) (by omega)]
      exact e6 i hi
  refine ⟨⟨⟨?_, ?_, ?_⟩, ⟨?_, ?_, ?_⟩, ⟨?_, ?_, ?_⟩⟩, ?_, ?_, ?_, ⟨?_, ?_, ?_⟩, ⟨p, p1, ?_, ?_⟩, ?_, ?_, hC'⟩
  · rw [h1 _ (by omega) (by omega) (by omega)]; exact a1
  · rw [h3 _ _ (by omega) (by unfold regA; omega) (by omega) (by omega)]; exact a2
  · refine ⟨a3.1, fun i hi => ?_⟩
    dsimp only
    rw [h2 _ (by omega) (by omega) (by omega), h4 18 (6 * b + i) (by unfold regB; omega)]
    exact a3.2 i hi
  · rw [h1 _ (by omega) (by omega) (by omega)]; exact a4
  · rw [h3 _ _ (by omega) (by unfold regA; omega) (by omega) (by omega)]; exact a5
  · refine ⟨a6.1, fun i hi => ?_⟩
    dsimp only
    rw [h2 _ (by omega) (by omega) (by omega), h4 19 (5 * b + i) (by unfold regB; omega)]
    exact a6.2 i hi
  · rw [h1 _ (by omega) (by omega) (by omega)]; exact a7
  · rw [h3 _ _ (by omega) (by unfold regA; omega) (by omega) (by omega)]; exact a8
  · refine ⟨a9.1, fun i hi => ?_⟩
    dsimp only
    rw [h2 _ (by omega) (by omega) (by omega), h4 20 (6 * b + i) (by unfold regB; omega)]
    exact a9.2 i hi
  · intro i hi
    dsimp only
    rw [h2 (q + 2) (by omega) (by omega) (by omega), h2 (q + 3) (by omega) (by omega) (by omega), h3 3 (6 * b + i) (by omega) (by unfold regA; omega) (by omega) (by omega), h3 4 (6 * b + i) (by omega) (by unfold regA; omega) (by omega) (by omega)]
    exact b1 i hi
  · intro i hi
    dsimp only
    rw [h2 (q + 5) (by omega) (by omega) (by omega), h3 6 (5 * b + i) (by omega) (by unfold regA; omega) (by omega) (by omega)]
    exact b2 i hi
  · intro i hi
    dsimp only
    rw [h2 (q + 10) (by omega) (by omega) (by omega), h2 (q + 11) (by omega) (by omega) (by omega), h3 11 (6 * b + i) (by omega) (by unfold regA; omega) (by omega) (by omega), h3 12 (6 * b + i) (by omega) (by unfold regA; omega) (by omega) (by omega)]
    exact b3 i hi
  · rw [h1 _ (by omega) (by omega) (by omega)]; exact c1
  · rw [h3 _ _ (by omega) (by unfold regA; omega) (by omega) (by omega)]; exact c2
  · rw [h2 (q + 6) (by omega) (by omega) (by omega), h2 (q + 7) (by omega) (by omega) (by omega), h2 (q + 8) (by omega) (by omega) (by omega)]
    refine ⟨c3.1, c3.2.1, fun a c ha hc => ?_⟩
    dsimp only
    rw [h3 8 (25 * b + (5 * a + c)) (by omega) (by unfold regA; omega) (by omega) (by omega)]
    exact c3.2.2 a c ha hc
  · rw [h1 _ (by omega) (by omega) (by omega)]; exact p2
  · rw [h3 _ _ (by omega) (by unfold regA; omega) (by omega) (by omega)]; exact p3
  · by_cases e : wh = 0
    · subst e; exact hF
    · exact oth 0 (by decide) (by omega) d1
  · by_cases e : wh = 1
    · subst e; exact hF
    · exact oth 1 (by decide) (by omega) d2
/-- X read a phrase well, and what follows it is no token at all: the reference tells that at once, the class with the next sign -/
def Odd (q b : Nat) (MX MY : Mem) (rx : Option (Int32 × Mem)) (ry : Option Mem) : Prop := ∃ MX' MY', rx = some (1, MX') ∧ ry = some MY' ∧ gI MX' 386 = 258 ∧ gI MY' 8 = 1 ∧ gI MY' 9 = gI MX' 388 ∧ FX2 q MX MX' ∧ FY2 b MY MY'
/-- the reader's own start -/
def yStart (M : Mem) (k : Int32) : Mem := sI (sA (sA (sA (sA (sI (sI (sI (sI M 41 0) 42 0) 44 0) 45 0) 21 0 k) 22 0 0) 23 0 1) 25 0 0) 41 1
theorem ystart {n0 : Nat} {k : Int32} {M : Mem} (h8 : gI M 8 = 0) (hk : k = 0 ∨ k = 1) : fX12_reads n0 k M = YLp n0 n0 (yStart M k) := by
  have e8 : gI M 8 ≤ 0 := by rw [h8]; exact i00
  have ep : ∀ k' : Int32, fX12_reads_38 n0 k' (sI (sI (sI (sI M 41 0) 42 0) 44 0) 45 0) = YLp n0 n0 (yStart M k') := fun k' => by
    have e41 : gI (sI (sI (sI (sI M 41 0) 42 0) 44 0) 45 0) 41 = 0 := by simp [gI_sI]
    have e44 : gI (sI (sI (sI (sI M 41 0) 42 0) 44 0) 45 0) 44 = 0 := by simp [gI_sI]
    have o : ¬ oob (gI (sI (sI (sI (sI M 41 0) 42 0) 44 0) 45 0) 41) 20 := by rw [e41]; decide
    have c0 : (0 : Int32).toNatClampNeg = 0 := by decide
    have hp : fX12_pushes n0 k' (sI (sI (sI (sI M 41 0) 42 0) 44 0) 45 0) = some (yStart M k') := by
      unfold fX12_pushes yStart
      refine eq_f o (eq_n (eq_f o (eq_n (eq_f o (eq_n (eq_f o (eq_n ?_)))))))
      simp only [gI_sA, e41, e44, c0]
      rfl
    unfold fX12_reads_38 YLp
    exact eq_b hp rfl
  unfold fX12_reads
  rcases hk with q | q
  · subst q
    exact eq_t e8 (eq_n (eq_n (eq_n (eq_n (eq_t rfl (ep 0))))))
  · subst q
    exact eq_t e8 (eq_n (eq_n (eq_n (eq_n (eq_f i10 (ep 1))))))
section SAYS
variable {n0 L s q b nt nc nd nr C wh : Nat} {MX MY : Mem}
/-- both readers at the start of a phrase -/
theorem startEn {fl' : Int32} (hq : q = 31 ∨ q = 47) (hwh : wh ≤ 1) (hP : PR L s MX MY) (hb : gI MY 34 = nI b) (hb1 : b ≤ 1) (h33 : gI MY 33 = nI C) (hCs : C ≤ s) (hz : gI MX (128 * (q + 12 + 2 * wh) + 1) = 0) (hf : fl' = 0 ∨ fl' = 1) (i : Nat) : En L s (q + 12 + 2 * wh) b C 1 0 0 0 0 [] [] (sI (sR MX 257 (q + 12 + 2 * wh)) 258 fl') (yStart (sA (sI MY 35 fl') 14 i (nI C)) fl') := by
  refine ⟨?_, ?_, by omega, ⟨?_, fun i hi => by simp at hi⟩, ⟨?_, hb1, ?_, ⟨by decide, by decide⟩, ?_, Nat.le_refl _, ?_, trivial, by simp, ?_, fun i hi => by simp at hi, ?_, ?_⟩, ⟨?_, ?_⟩, by omega, Nat.le_refl _, by simp; omega, by simp, ?_⟩
  · refine hP.cong (fun j h1 h2 => ?_) ?_ rfl rfl (fun j hj => ?_) rfl ?_
    · rw [gI_ne (by omega)]; rfl
    · rw [gI_ne (by omega)]; rfl
    · unfold yStart
      rw [gI_ne (by omega)]
      show gI (sI (sI (sI (sI (sA (sI MY 35 fl') 14 i (nI C)) 41 0) 42 0) 44 0) 45 0) j = _
      rw [gI_ne (by omega), gI_ne (by omega), gI_ne (by omega), gI_ne (by omega)]
      show gI (sI MY 35 fl') j = _
      rw [gI_ne (by omega)]
    · unfold yStart
      show gA (sA (sA (sA (sA (sA (sI MY 35 fl') 14 i (nI C)) 21 0 fl') 22 0 0) 23 0 1) 25 0 0) 1 = _
      rw [gA_sA_ne (by decide), gA_sA_ne (by decide), gA_sA_ne (by decide), gA_sA_ne (by decide), gA_sA_ne (by decide)]
      rfl
  · show gR (sR MX 257 _) 257 = _
    rw [gR_sR, if_pos rfl]
  · rw [gI_ne (by omega)]
    exact hz
  · unfold yStart; simp [gI_sI, gI_sA, hb]
  · unfold yStart; rw [gI_at]; rfl
  · unfold yStart
    show gA (sA _ 25 0 0) 25 0 = _
    rw [gA_sA, if_pos rfl, if_pos rfl]
    rfl
  · unfold yStart; simp [gI_sI, gI_sA]; rfl
  · unfold yStart; simp [gI_sI, gI_sA, h33]
  · unfold yStart; simp [gI_sI, gI_sA]; rfl
  · decide
  · unfold yStart; simp [gI_sI, gI_sA]
  · rw [gI_at]; exact hf
  · unfold yStart; simp [gI_sI, gI_sA]
/-- the end of a phrase: what waits is joined; or the token behind it is none -/
theorem phrEnd {k : Nat} {t : Bool} {rl r D k' : Nat} {lyc δ : List (Int32 × Int32)} {R : List Int32} {MXi MYi MXc MYc : Mem} {qf sc : Nat} {kf : Int32} (hn : 1700 ≤ n0) (h : En L s qf b C 1 0 0 0 0 [] [] MXi MYi) (hS : St n0 L s qf b C 1 0 0 0 0 [] [] MXi MYi rl r D t MXc MYc sc k' δ R lyc) (hr : 1 ≤ r) (hkf : gA MYi 21 0 = kf) (hk01 : kf = 0 ∨ kf = 1) (hQ1 : ¬ ari (gI MXc 386) ∨ (2 : Int32) ≤ gA MYc 22 0) (hQ2 : ¬ isT kf ∨ (¬ gA MYc 22 0 = 0 ∧ ¬ gI MXc 386 = 280 ∧ ¬ gI MXc 386 = 279)) (hk : k = 0) :
    (gI MXc 386 = 258 ∧ YLp n0 n0 MYi = some (sI (sI MYc 8 1) 9 (gI MXc 388))) ∨ (∃ Mj, YLp n0 n0 MYi = some Mj ∧ PR L sc MXc Mj ∧ YP b C 1 0 0 0 [] δ Mj ∧ FP b C 1 0 MYi Mj) := by
  obtain ⟨hlen1, hlen2, hlen3, hlen4⟩ := hS.len h
  obtain ⟨a1, a2, a3, a4, a5, a6, a7, a8, a9, a10, a11, a12, a13, a14, a15, a16⟩ := hS
  have hfu : n0 = n0 - k' - 2 + 2 + k' := by omega
  have f21 : gA MYc 21 0 = kf := (a15.2.1 21 0 (by unfold pReg; omega)).trans hkf
  by_cases h8 : gI MXc 386 = 258
  · left
    refine ⟨h8, ?_⟩
    have : YLp n0 (n0 - k' - 2 + 2 + k') MYi = some (sI (sI MYc 8 1) 9 (gI MXc 388)) := by
      rw [a1]
      exact ylgo0 (by rw [a11]; decide) (ygoB a4 h8)
    rwa [← hfu] at this
  · right
    obtain ⟨Mj, ej, yj, fj⟩ := a6.join (n0 := n0) (least := 1) (by omega) (fun o ho => Nat.le_trans hr (a8 o ho)) (Or.inl rfl) (by omega) (by decide)
    have hgo : fX12_goesOn n0 MYc = some (0, Mj) := by
      rw [ygo422 (dp := 1) a4 h8 hQ1 (by rw [f21]; exact hQ2) a6.2.2.1 a6.2.2.2.1]
      unfold fX12_goesOn_422
      rw [f21]
      exact eq_f (by rcases hk01 with z | z <;> rw [z] <;> decide) (eq_t a4.f8 (eq_b ej rfl))
    have e : lyc ++ fl R = δ := by rw [a7]; rfl
    rw [e] at yj
    refine ⟨Mj, ?_, a4.jn fj, yj, a15.tr (fj.p.wk (by simp) (Nat.le_refl _) (Nat.le_refl _))⟩
    have : YLp n0 (n0 - k' - 2 + 2 + k') MYi = some Mj := by
      rw [a1]
      exact ylgo0 (by rw [a11]; decide) hgo
    rwa [← hfu] at this
end SAYS
