/-! THE STATEMENTS ONE BY ONE -/
theorem yfskip {n0 L : Nat} {x1 : Int32} {M : Mem} (h16 : L ≤ 1600) (hL : gI M 2 = nI L) : ∀ (w p : Nat), p ≤ L → L < w + p → ∃ a, SkB (gA M 1) L p a ∧ loopN (bX12_finishes_17 n0) (fun _ _ _ => none) w x1 (nI p) M = fX12_finishes_53 n0 x1 (nI a) M := by
  intro w
  induction w with
  | zero => intro p _ h; omega
  | succ w ih =>
    intro p hp hw
    rw [lpS, bX12_finishes_17]
    have step : blk (gA M 1 p) → p < L → ∃ a, SkB (gA M 1) L p a ∧ fX12_finishes_47 n0 (loopN (bX12_finishes_17 n0) (fun _ _ _ => none) w) x1 (nI p) M = fX12_finishes_53 n0 x1 (nI a) M := by
      intro hb hpL
      obtain ⟨a, ha, e⟩ := ih (p + 1) (by omega) (by omega)
      refine ⟨a, ⟨by have := ha.1; omega, ha.2.1, fun i h1 h2 => ?_, ha.2.2.2⟩, ?_⟩
      · by_cases hi : i = p
        · rw [hi]; exact hb
        · exact ha.2.2.1 i (by omega) h2
      · unfold fX12_finishes_47
        rw [nI_1]
        exact e
    by_cases h : L ≤ p
    · exact ⟨p, ⟨Nat.le_refl p, hp, fun i h1 h2 => by omega, fun h1 => by omega⟩, eq_t (by rw [hL]; exact nI_le h (by omega)) rfl⟩
    · have hcl : (nI p).toNatClampNeg = p := nI_clamp (by omega)
      have g1 : ¬ gI M 2 ≤ nI p := by rw [hL]; exact nI_ge (by omega) (by omega)
      have o : ¬ oob (nI p) 1800 := nI_in (by omega) (by decide)
      simp only [hcl]
      by_cases hb : gA M 1 p = 32
      · obtain ⟨a, ha, e⟩ := step (Or.inl hb) (by omega)
        exact ⟨a, ha, eq_f g1 (eq_f o (eq_t hb e))⟩
      · by_cases hc : gA M 1 p = 10
        · obtain ⟨a, ha, e⟩ := step (Or.inr hc) (by omega)
          exact ⟨a, ha, eq_f g1 (eq_f o (eq_f hb (eq_f o (eq_t hc e))))⟩
        · refine ⟨p, ⟨Nat.le_refl p, hp, fun i h1 h2 => by omega, fun _ g => ?_⟩, eq_f g1 (eq_f o (eq_f hb (eq_f o (eq_f hc rfl))))⟩
          rcases g with g | g
          · exact hb g
          · exact hc g
/-- where the class's next token begins -/
theorem advSk {n0 L s s' e : Nat} {MX MY MX' : Mem} (hn : 1601 ≤ n0) (h : PR L s MX MY) (hs : s < L) (he : gI MX 390 = nI e) (he' : e ≤ L) (ha : fX8_advance n0 MX = some MX') (h' : gI MX' 387 = nI s') (hs' : s' ≤ 1600) : SkB (gA MX 6) L e s' := by
  obtain ⟨h0, hT, _⟩ := h
  obtain ⟨e2, b1, b2, b3, b4, b5⟩ := hT.2.2.2.1
  have h16 := h0.2.2.1
  have : e = e2 := (nI_eq (by omega) (by omega)).mp (he.symm.trans b1)
  subst this
  obtain ⟨M2, q1, ⟨s2, e3, q2, q3⟩, _⟩ := xadvance (n0 := n0) hn h16 h0.1 he' he (b5 hs).2.1 h0.2.2.2.2.1 h0.2.2.2.2.2
  rw [ha] at q1
  obtain rfl := Option.some.inj q1
  have := q2.2.1
  have : s' = s2 := (nI_eq (by omega) (by omega)).mp (h'.symm.trans q3.1)
  rw [this]
  exact q2
theorem yfinF {n0 : Nat} {x : Int32} {M : Mem} (h : ¬ gI M 8 ≤ 0) : fX12_finishes n0 x M = some M := by
  unfold fX12_finishes
  exact eq_b (ylexF h) (eq_f h rfl)
/-- the sign that ends a statement, the n-th -/
theorem finP {n0 L s n : Nat} {MX MY : Mem} (hn : 1700 ≤ n0) (h : PR L s MX MY) (hn80 : n ≤ 80) :
    (∃ MX' MY', fX8_skip n0 59 MX = some (0, MX') ∧ fX12_finishes n0 (nI n) MY = some MY' ∧ Flt MX' MY' ∧ FI 386 392 MX MX' ∧ FrY MY MY') ∨
    (∃ MX' MY' s', fX8_skip n0 59 MX = some (1, MX') ∧ fX12_finishes n0 (nI n) MY = some MY' ∧ s < s' ∧ PR L s' MX' MY' ∧ FI 386 392 MX MX' ∧ FrY MY MY' ∧ (n = 80 → gI MX' 386 = 259)) ∨
    (n = 80 ∧ ∃ MX' MY' s', fX8_skip n0 59 MX = some (1, MX') ∧ fX12_finishes n0 (nI n) MY = some MY' ∧ ¬ gI MX' 386 = 259 ∧ gI MX' 387 = nI s' ∧ gI MY' 8 = 6 ∧ gI MY' 9 = nI s' ∧ FI 386 392 MX MX' ∧ FrY MY MY') := by
  have e8 : gI MY 8 ≤ 0 := by rw [h.f8]; exact i00
  obtain ⟨e, b1, b2, b3, b4, b5⟩ := h.2.1.2.2.2.1
  have h16 := h.L16
  by_cases h8 : gI MX 386 = 258
  · left
    refine ⟨_, _, xskF (by rw [h8]; decide), ?_, Flt.mk (k := 1) (by decide) (by decide), FIf, FYf⟩
    unfold fX12_finishes
    exact eq_b (ylexB h h8) (eq_f (n8f (k := 1) (by decide) (by decide)) rfl)
  obtain ⟨a, hsk, ea⟩ := yfskip (n0 := n0) (x1 := nI n) h16 h.1.2.1 n0 e b4 (by omega)
  have yfin : ∀ r, fX12_finishes_53 n0 (nI n) (nI a) MY = r → fX12_finishes n0 (nI n) MY = r := fun r hr => by
    unfold fX12_finishes fX12_finishes_17
    refine eq_b (ylexG h h8) (eq_t e8 (eq_n ?_))
    rw [b2, ea]
    exact hr
  rcases skS (n0 := n0) (c := 59) (by omega) (by decide) h with ⟨MX1, MY1, s1, ex, ey, hs1, hP1, fx, fy⟩ | ⟨MX1, MY1, ex, ey, hF, fx, fy⟩
  rotate_left
  · left
    refine ⟨MX1, MY1, ex, yfin _ ?_, hF, fx, fy⟩
    have hk : ¬ gI MX 386 = 59 := fun g => by
      obtain ⟨A, B, _, e1, e2, _⟩ := h.adv (n0 := n0) (by omega) (h.2.1.2.2.2.2.lt (by rw [g]; decide))
      unfold fX8_skip at ex
      rw [if_pos g, e1] at ex
      exact absurd (congrArg Prod.fst (Option.some.inj ex)) i10
    unfold fX12_finishes_53 fX12_finishes_83
    exact eq_b (ySign (by decide) h) (eq_t (bI_f hk) (eq_b ey rfl))
  have hk : gI MX 386 = 59 := by
    refine Decidable.byContradiction (fun g => ?_)
    rw [xskF g] at ex
    exact absurd (congrArg Prod.fst (Option.some.inj ex)).symm i10
  have e83 : fX12_finishes_83 n0 MY = some MY1 := by
    unfold fX12_finishes_83
    exact eq_b ey rfl
  have hs := h.2.1.2.2.2.2.lt (by rw [hk]; decide)
  have hadv : fX8_advance n0 MX = some MX1 := by
    unfold fX8_skip at ex
    rw [if_pos hk] at ex
    cases hq : fX8_advance n0 MX with
    | none => rw [hq] at ex; cases ex
    | some z =>
      rw [hq] at ex
      have := congrArg Prod.snd (Option.some.inj ex)
      exact congrArg some this
  have hsk' : SkB (gA MX 6) L e s1 := advSk (n0 := n0) (by omega) h hs b1 b4 hadv hP1.st (by have := hP1.2.1.2.2.1; omega)
  rw [h.1.2.2.2.1] at hsk
  obtain rfl : a = s1 := hsk.uniq hsk'
  by_cases hn8 : n = 80
  · by_cases hz : L ≤ a
    · right; left
      have : a = L := by have := hsk.2.1; omega
      refine ⟨MX1, MY1, a, ex, yfin _ ?_, hs1, hP1, fx, fy, fun _ => ?_⟩
      · unfold fX12_finishes_53
        exact eq_b (ySign (by decide) h) (eq_f (bz hk) (eq_t (by rw [hn8]; rfl) (eq_t (by show gI MY 2 ≤ nI a; rw [h.1.2.1]; exact nI_le hz (by omega)) e83)))
      · refine Decidable.byContradiction (fun g => ?_)
        have := hP1.2.1.2.2.2.2.lt g
        omega
    · right; right
      have n6 : ¬ gI (sI (sI MY 8 6) 9 (nI a)) 8 ≤ 0 := n8f (k := 6) (by decide) (by decide)
      refine ⟨hn8, MX1, sI (sI MY 8 6) 9 (nI a), a, ex, yfin _ ?_, fun g => ?_, hP1.st, g8f, gI_at, fx, FYf⟩
      · unfold fX12_finishes_53
        refine eq_b (ySign (by decide) h) (eq_f (bz hk) (eq_t (by rw [hn8]; rfl) (eq_f (by show ¬ gI MY 2 ≤ nI a; rw [h.1.2.1]; exact nI_ge (by omega) (by omega)) (eq_b (yblame0 h.f8) ?_))))
        unfold fX12_finishes_83
        exact eq_b (ymustSF n6) rfl
      · rcases hP1.2.1.2.2.2.2 with z | z | z | z | z
        · exact hz (by omega)
        · rw [g] at z; exact absurd z.1 (by decide)
        · rw [g] at z; exact absurd z.1 (by decide)
        · rw [g] at z; exact absurd z.1.2 (by decide)
        · obtain ⟨_, _, _, _, v, w, k, _, hd, e1, _⟩ := z
          exact (kdOf_w hd).2 (e1.symm.trans g)
  · right; left
    refine ⟨MX1, MY1, a, ex, yfin _ ?_, hs1, hP1, fx, fy, fun g => absurd g hn8⟩
    have : ¬ nI n = 80 := fun g => hn8 ((nI_eq (a := n) (b := 80) (by omega) (by decide)).mp g)
    unfold fX12_finishes_53
    exact eq_b (ySign (by decide) h) (eq_f (bz hk) (eq_f this e83))
