/-! STEPS OF BOTH READERS: names to be given, names that are known -/
theorem KR.nm {kd pl va sg lx vy : Int32} {wd : Int64} {L s : Nat} (h : KR kd pl va sg lx vy wd L s) (hk : kd = 257) : sg = 1 ∧ ∃ v w, WR v w ∧ va = nI v ∧ wd = lN w ∧ ∀ i, i < 25 → ¬ wd = lN (ownL i) := by
  rcases h with h | h | h | h | h
  · rw [hk] at h; exact absurd h.1 (by decide)
  · rw [hk] at h; exact absurd h.1 (by decide)
  · rw [hk] at h; exact absurd h.1 (by decide)
  · rw [hk] at h; exact absurd h.1.2 (by decide)
  · obtain ⟨_, h3, _, _, v, w, k, hw, hd, e1, e2, e3⟩ := h
    refine ⟨h3, v, w, hw, e2, e3, fun i hi g => ?_⟩
    rw [e3] at g
    have := (hd.2 i hi).mpr ((hw.iff (own_WR hi)).mpr ((pk_lEQ (Nat.lt_trans hw.w_lt (by decide)) (Nat.lt_trans (own_WR hi).w_lt (by decide))).mp g))
    rw [hk] at e1
    have := (nI_eq (a := 257) (b := k) (by decide) (by omega)).mp e1
    omega
theorem KR.nn {kd pl va sg lx vy : Int32} {wd : Int64} {L s : Nat} (h : KR kd pl va sg lx vy wd L s) (hb : ¬ kd = 258) (hk : ¬ kd = 257) : ¬ sg = 1 ∨ ∃ i, i < 25 ∧ wd = lN (ownL i) := by
  rcases h with h | h | h | h | h
  · exact Or.inl (by rw [h.2.2.1]; decide)
  · exact absurd h.1 hb
  · exact Or.inl (by rw [h.2.2.1]; decide)
  · exact Or.inl (by rw [h.2.2.1]; decide)
  · obtain ⟨_, h3, _, _, v, w, k, hw, hd, e1, e2, e3⟩ := h
    right
    rcases hd.1 with q | q
    · rw [q] at e1; exact absurd e1 hk
    · refine ⟨k - 260, by omega, ?_⟩
      have hi : k - 260 < 25 := by omega
      rw [e3]
      exact congrArg lN ((hw.iff (own_WR hi)).mp ((hd.2 (k - 260) hi).mp (by omega)))
theorem yOwn0 {n0 : Nat} {y : Int64} {M : Mem} (h : ∀ i, i < 25 → ¬ y = lN (ownL i)) : fX12_isOwn n0 y M = some (0, M) := by
  obtain ⟨u, e, q | ⟨_, i, hi, q⟩⟩ := yOwn (n0 := n0) (y := y) (M := M)
  · rw [e, q.1]
  · exact absurd q (h i hi)
theorem yOwn1 {n0 : Nat} {y : Int64} {M : Mem} (h : ∃ i, i < 25 ∧ y = lN (ownL i)) : fX12_isOwn n0 y M = some (1, M) := by
  obtain ⟨u, e, q | q⟩ := yOwn (n0 := n0) (y := y) (M := M)
  · obtain ⟨i, hi, g⟩ := h
    exact absurd g (q.2 i hi)
  · rw [e, q.1]
/-- names of a town that is read: its place q, its bank b -/
def NmR (q b nt nc nd : Nat) (MX MY : Mem) : Prop :=
  (gI MX (128 * q + 1) = nI nt ∧ gA MY 2 b = nI nt ∧ NmS 6 nt (gA MX (q + 1)) (fun i => gB MY 18 (6 * b + i))) ∧
  (gI MX (128 * q + 5) = nI nc ∧ gA MY 5 b = nI nc ∧ NmS 5 nc (gA MX (q + 4)) (fun i => gB MY 19 (5 * b + i))) ∧
  (gI MX (128 * q + 12) = nI nd ∧ gA MY 10 b = nI nd ∧ NmS 6 nd (gA MX (q + 9)) (fun i => gB MY 20 (6 * b + i)))
def At (q b : Nat) (MX MY : Mem) : Prop := gR MX 130 = q ∧ (q = 31 ∨ q = 47) ∧ gI MY 34 = nI b ∧ b ≤ 1
theorem n6 (b i : Nat) : (6 : Int32) * nI b + nI i = nI (6 * b + i) := by rw [← nI_add, ← nI_mul]; rfl
theorem n5 (b i : Nat) : (5 : Int32) * nI b + nI i = nI (5 * b + i) := by rw [← nI_add, ← nI_mul]; rfl
theorem yN0 {n0 b i : Nat} {M : Mem} (hb : b ≤ 1) (hi : i < 6) : fX12_nameOf n0 (nI b) 0 (nI i) M = some (gB M 18 (6 * b + i), M) := by
  unfold fX12_nameOf
  refine eq_t rfl (eq_f (by rw [n6]; exact nI_in (by omega) (by decide)) ?_)
  rw [n6, nI_clamp (by omega)]
theorem yN1 {n0 b i : Nat} {M : Mem} (hb : b ≤ 1) (hi : i < 5) : fX12_nameOf n0 (nI b) 1 (nI i) M = some (gB M 19 (5 * b + i), M) := by
  unfold fX12_nameOf
  refine eq_f i10 (eq_t rfl (eq_f (by rw [n5]; exact nI_in (by omega) (by decide)) ?_))
  rw [n5, nI_clamp (by omega)]
theorem yN2 {n0 b i : Nat} {M : Mem} (hb : b ≤ 1) (hi : i < 6) : fX12_nameOf n0 (nI b) 2 (nI i) M = some (gB M 20 (6 * b + i), M) := by
  unfold fX12_nameOf
  refine eq_f (by decide) (eq_f (by decide) (eq_f (by rw [n6]; exact nI_in (by omega) (by decide)) ?_))
  rw [n6, nI_clamp (by omega)]
theorem yM0 {n0 b : Nat} {M : Mem} (hb : b ≤ 1) : fX12_manyOf n0 (nI b) 0 M = some (gA M 2 b, M) := by
  unfold fX12_manyOf
  refine eq_t rfl (eq_f (nI_in (by omega) (by decide)) ?_)
  rw [nI_clamp (by omega)]
theorem yM1 {n0 b : Nat} {M : Mem} (hb : b ≤ 1) : fX12_manyOf n0 (nI b) 1 M = some (gA M 5 b, M) := by
  unfold fX12_manyOf
  refine eq_f i10 (eq_t rfl (eq_f (nI_in (by omega) (by decide)) ?_))
  rw [nI_clamp (by omega)]
theorem yM2 {n0 b : Nat} {M : Mem} (hb : b ≤ 1) : fX12_manyOf n0 (nI b) 2 M = some (gA M 10 b, M) := by
  unfold fX12_manyOf
  refine eq_f (by decide) (eq_f (by decide) (eq_f (nI_in (by omega) (by decide)) ?_))
  rw [nI_clamp (by omega)]
theorem ln_1 {q : Nat} (h : q = 31 ∨ q = 47) : LX.ln (q + 1) = 6 := by rcases h with rfl | rfl <;> rfl
theorem ln_4 {q : Nat} (h : q = 31 ∨ q = 47) : LX.ln (q + 4) = 5 := by rcases h with rfl | rfl <;> rfl
theorem ln_9 {q : Nat} (h : q = 31 ∨ q = 47) : LX.ln (q + 9) = 6 := by rcases h with rfl | rfl <;> rfl
theorem find0 {n0 q b nt nc nd v w : Nat} {MX MY : Mem} (hn : 1601 ≤ n0) (hA : At q b MX MY) (hN : NmR q b nt nc nd MX MY) (hw : WR v w) : ∃ r, fX9_findThing n0 q (nI v) MX = some (r, MX) ∧ fX12_named n0 0 (lN w) MY = some (r, MY) ∧ ((r = -1 ∧ ∀ i, i < nt → ¬ gA MX (q + 1) i = nI v) ∨ ∃ i, i < nt ∧ r = nI i) := by
  obtain ⟨h1, h2, h3⟩ := hN.1
  have := h3.1
  obtain ⟨r, a1, a2, a3⟩ := find2 (n0 := n0) (sort := 0) hw (ln_1 hA.2.1) (by decide) h3 (by rw [hA.2.2.1, yM0 hA.2.2.2, h2]) (fun i hi => by rw [hA.2.2.1, yN0 hA.2.2.2 (by omega)]) n0 0 (by omega) (by omega) (fun i hi => by omega)
  refine ⟨r, ?_, a2, a3⟩
  unfold fX9_findThing
  rw [h1]
  exact eq_b a1 rfl
theorem find1 {n0 q b nt nc nd v w : Nat} {MX MY : Mem} (hn : 1601 ≤ n0) (hA : At q b MX MY) (hN : NmR q b nt nc nd MX MY) (hw : WR v w) : ∃ r, fX9_findCorner n0 q (nI v) MX = some (r, MX) ∧ fX12_named n0 1 (lN w) MY = some (r, MY) ∧ ((r = -1 ∧ ∀ i, i < nc → ¬ gA MX (q + 4) i = nI v) ∨ ∃ i, i < nc ∧ r = nI i) := by
  obtain ⟨h1, h2, h3⟩ := hN.2.1
  have := h3.1
  obtain ⟨r, a1, a2, a3⟩ := find2 (n0 := n0) (sort := 1) hw (ln_4 hA.2.1) (by decide) h3 (by rw [hA.2.2.1, yM1 hA.2.2.2, h2]) (fun i hi => by rw [hA.2.2.1, yN1 hA.2.2.2 (by omega)]) n0 0 (by omega) (by omega) (fun i hi => by omega)
  refine ⟨r, ?_, a2, a3⟩
  unfold fX9_findCorner
  rw [h1]
  exact eq_b a1 rfl
theorem find2d {n0 q b nt nc nd v w : Nat} {MX MY : Mem} (hn : 1601 ≤ n0) (hA : At q b MX MY) (hN : NmR q b nt nc nd MX MY) (hw : WR v w) : ∃ r, fX9_findDoing n0 q (nI v) MX = some (r, MX) ∧ fX12_named n0 2 (lN w) MY = some (r, MY) ∧ ((r = -1 ∧ ∀ i, i < nd → ¬ gA MX (q + 9) i = nI v) ∨ ∃ i, i < nd ∧ r = nI i) := by
  obtain ⟨h1, h2, h3⟩ := hN.2.2
  have := h3.1
  obtain ⟨r, a1, a2, a3⟩ := find2 (n0 := n0) (sort := 2) hw (ln_9 hA.2.1) (by decide) h3 (by rw [hA.2.2.1, yM2 hA.2.2.2, h2]) (fun i hi => by rw [hA.2.2.1, yN2 hA.2.2.2 (by omega)]) n0 0 (by omega) (by omega) (fun i hi => by omega)
  refine ⟨r, ?_, a2, a3⟩
  unfold fX9_findDoing
  rw [h1]
  exact eq_b a1 rfl
-- a name to be given
def OutW (L s : Nat) (MX MY : Mem) (rx : Option (Int32 × Mem)) (ry : Option (Int64 × Mem)) : Prop :=
  (∃ v w MX' MY' s', WR v w ∧ rx = some (nI v, MX') ∧ ry = some (lN w, MY') ∧ s < s' ∧ PR L s' MX' MY' ∧ FI 386 392 MX MX' ∧ FrY MY MY') ∨ (∃ MX' MY' u, rx = some (-1, MX') ∧ ry = some (u, MY') ∧ Flt MX' MY' ∧ FI 386 392 MX MX' ∧ FrY MY MY')
theorem yfreshF {n0 : Nat} {M : Mem} (h : ¬ gI M 8 ≤ 0) : fX12_fresh n0 M = some (0, M) := by
  unfold fX12_fresh
  exact eq_b (ylexF h) (eq_f h rfl)
theorem yf83 {n0 : Nat} {M : Mem} (h : ¬ gI M 8 = 0) : fX12_fresh_83 n0 M = some (gL M 7, M) := by
  unfold fX12_fresh_83
  exact eq_n (eq_f h rfl)
theorem yfl {n0 u : Nat} {x : Int32} {M : Mem} (h : ¬ gI M 8 = 0) : loopN (bX12_fresh_43 n0) (fun _ _ => none) (u + 1) x M = some (gL M 7, M) := by
  rw [lpS, bX12_fresh_43]
  by_cases g : (2 : Int32) < x
  · exact eq_t g (yf83 h)
  · exact eq_f g (eq_f h (yf83 h))
theorem newP {n0 L s q b nt nc nd : Nat} {MX MY : Mem} (hn : 1601 ≤ n0) (h : PR L s MX MY) (hA : At q b MX MY) (hN : NmR q b nt nc nd MX MY) : OutW L s MX MY (fX4_newName n0 MX) (fX12_fresh n0 MY) := by
  obtain ⟨m, rfl⟩ : ∃ m, n0 = m + 4 := ⟨n0 - 4, by omega⟩
  have e8 : gI MY 8 ≤ 0 := by rw [h.f8]; exact i00
  by_cases hb : gI MX 386 = 258
  · refine Or.inr ⟨sI (sI MX 391 1) 392 (gI MX 388), sI (sI MY 8 1) 9 (gI MX 388), 0, ?_, ?_, Flt.mk (k := 1) (by decide) (by decide), FIf, FYf⟩
    · unfold fX4_newName
      exact eq_n (eq_f (by rw [hb]; decide) (eq_b xfailH rfl))
    · unfold fX12_fresh
      exact eq_b (ylexB h hb) (eq_f (n8f (k := 1) (by decide) (by decide)) rfl)
  by_cases hk : gI MX 386 = 257
  · obtain ⟨h3, v, w, hw, e2, e3, hno⟩ := h.2.1.2.2.2.2.nm hk
    obtain ⟨r0, x0, y0, c0⟩ := find0 (n0 := m + 4) hn hA hN hw
    obtain ⟨r1, x1, y1, c1⟩ := find1 (n0 := m + 4) hn hA hN hw
    obtain ⟨r2, x2, y2, c2⟩ := find2d (n0 := m + 4) hn hA hN hw
    rw [← hA.1, ← e2] at x0 x1 x2
    rw [← e3] at y0 y1 y2
    have xf : fX8_fail (m + 4) 2 (gI MX 387) MX = some (0, sI (sI MX 391 2) 392 (nI s)) := by rw [h.st]; rfl
    have yb : fX12_blame (m + 4) 2 (gI MY 4) MY = some (sI (sI MY 8 2) 9 (nI s)) := by rw [h.at_]; exact yblame0 h.f8
    have lit1 : (0 : Int32) + 1 = 1 := by decide
    have lit2 : (1 : Int32) + 1 = 2 := by decide
    have lit3 : (2 : Int32) + 1 = 3 := by decide
    have y67 : ∀ u : Nat, loopN (bX12_fresh_43 (m + 4)) (fun _ _ => none) (u + 1) 3 MY = fX12_fresh_83 (m + 4) MY := fun u => by
      rw [lpS, bX12_fresh_43]
      exact eq_t (by decide) rfl
    have bad : (∃ i, i < 6 ∧ (r0 = nI i ∨ (r0 = -1 ∧ (r1 = nI i ∨ (r1 = -1 ∧ r2 = nI i))))) → OutW L s MX MY (fX4_newName (m + 4) MX) (fX12_fresh (m + 4) MY) := by
      rintro ⟨i, hi, g⟩
      have ni : ¬ nI i = -1 := nI_m1 (by omega)
      refine Or.inr ⟨sI (sI MX 391 2) 392 (nI s), sI (sI MY 8 2) 9 (nI s), gL (sI (sI MY 8 2) 9 (nI s)) 7, ?_, ?_, Flt.mk (k := 2) (by decide) (by decide), FIf, FYf⟩
      · unfold fX4_newName fX4_newName_67
        refine eq_n (eq_t hk (eq_b x0 ?_))
        rcases g with g | ⟨g0, g⟩
        · exact eq_f (by rw [g]; exact ni) (eq_b xf rfl)
        · refine eq_t g0 (eq_b x1 ?_)
          rcases g with g | ⟨g1, g⟩
          · exact eq_f (by rw [g]; exact ni) (eq_b xf rfl)
          · exact eq_t g1 (eq_b x2 (eq_f (by rw [g]; exact ni) (eq_b xf rfl)))
      · have n2 : ¬ gI (sI (sI MY 8 2) 9 (nI s)) 8 = 0 := pos_ne (n8f (k := 2) (by decide) (by decide))
        unfold fX12_fresh fX12_fresh_41 fX12_fresh_43
        refine eq_b (ylexG h hb) (eq_t e8 (eq_t h3 (eq_b (yOwn0 hno) (eq_t rfl ?_))))
        show loopN (bX12_fresh_43 (m + 4)) (fun _ _ => none) (m + 3 + 1) 0 MY = _
        rw [lpS, bX12_fresh_43]
        refine eq_f (by decide) (eq_t h.f8 (eq_b y0 ?_))
        unfold fX12_fresh_77
        rcases g with g | ⟨g0, g⟩
        · exact eq_f (by rw [g]; exact ni) (eq_b yb (yfl n2))
        · refine eq_t g0 ?_
          rw [lit1]
          show loopN (bX12_fresh_43 (m + 4)) (fun _ _ => none) (m + 2 + 1) 1 MY = _
          rw [lpS, bX12_fresh_43]
          refine eq_f (by decide) (eq_t h.f8 (eq_b y1 ?_))
          unfold fX12_fresh_77
          rcases g with g | ⟨g1, g⟩
          · exact eq_f (by rw [g]; exact ni) (eq_b yb (yfl n2))
          · refine eq_t g1 ?_
            rw [lit2]
            show loopN (bX12_fresh_43 (m + 4)) (fun _ _ => none) (m + 1 + 1) 2 MY = _
            rw [lpS, bX12_fresh_43]
            refine eq_f (by decide) (eq_t h.f8 (eq_b y2 ?_))
            unfold fX12_fresh_77
            exact eq_f (by rw [g]; exact ni) (eq_b yb (yfl n2))
    have t6 := hN.1.2.2.1
    have c5 := hN.2.1.2.2.1
    have d6 := hN.2.2.2.2.1
    rcases c0 with ⟨g0, _⟩ | ⟨i, hi, g⟩
    · rcases c1 with ⟨g1, _⟩ | ⟨i, hi, g⟩
      · rcases c2 with ⟨g2, _⟩ | ⟨i, hi, g⟩
        · obtain ⟨MX', MY', s', ax, ay, hs, hP, fx, fy⟩ := h.adv hn (h.2.1.2.2.2.2.lt (by rw [hk]; decide))
          refine Or.inl ⟨v, w, MX', MY', s', hw, ?_, ?_, hs, hP, fx.wk (by decide) (by decide), fy.Y⟩
          · unfold fX4_newName
            rw [← e2]
            exact eq_n (eq_t hk (eq_b x0 (eq_t g0 (eq_b x1 (eq_t g1 (eq_b x2 (eq_t g2 (eq_b ax rfl))))))))
          · unfold fX12_fresh fX12_fresh_41 fX12_fresh_43
            refine eq_b (ylexG h hb) (eq_t e8 (eq_t h3 (eq_b (yOwn0 hno) (eq_t rfl ?_))))
            show loopN (bX12_fresh_43 (m + 4)) (fun _ _ => none) (m + 3 + 1) 0 MY = _
            rw [lpS, bX12_fresh_43]
            refine eq_f (by decide) (eq_t h.f8 (eq_b y0 (eq_t g0 ?_)))
            unfold fX12_fresh_77
            rw [lit1]
            show loopN (bX12_fresh_43 (m + 4)) (fun _ _ => none) (m + 2 + 1) 1 MY = _
            rw [lpS, bX12_fresh_43]
            refine eq_f (by decide) (eq_t h.f8 (eq_b y1 (eq_t g1 ?_)))
            unfold fX12_fresh_77
            rw [lit2]
            show loopN (bX12_fresh_43 (m + 4)) (fun _ _ => none) (m + 1 + 1) 2 MY = _
            rw [lpS, bX12_fresh_43]
            refine eq_f (by decide) (eq_t h.f8 (eq_b y2 (eq_t g2 ?_)))
            unfold fX12_fresh_77
            rw [lit3]
            refine (y67 m).trans ?_
            unfold fX12_fresh_83
            rw [e3]
            exact eq_n (eq_t h.f8 (eq_b ay rfl))
        · exact bad ⟨i, by omega, Or.inr ⟨g0, Or.inr ⟨g1, g⟩⟩⟩
      · exact bad ⟨i, by omega, Or.inr ⟨g0, Or.inl g⟩⟩
    · exact bad ⟨i, by omega, Or.inl g⟩
  · refine Or.inr ⟨sI (sI MX 391 1) 392 (gI MX 388), sI (sI MY 8 1) 9 (gI MX 388), gL (sI (sI MY 8 1) 9 (gI MX 388)) 7, ?_, ?_, Flt.mk (k := 1) (by decide) (by decide), FIf, FYf⟩
    · unfold fX4_newName
      exact eq_n (eq_f hk (eq_b xfailH rfl))
    · have n2 : ¬ gI (sI (sI MY 8 1) 9 (gI MX 388)) 8 = 0 := pos_ne (n8f (k := 1) (by decide) (by decide))
      have tail : fX12_fresh_32 (m + 4) MY = some (gL (sI (sI MY 8 1) 9 (gI MX 388)) 7, sI (sI MY 8 1) 9 (gI MX 388)) := by
        unfold fX12_fresh_32 fX12_fresh_41 fX12_fresh_43
        rw [h.at_, h.pl hb]
        rw [h.pl hb] at n2
        exact eq_b (yblame0 h.f8) (yfl n2)
      unfold fX12_fresh
      refine eq_b (ylexG h hb) (eq_t e8 ?_)
      by_cases g : gI MY 3 = 1
      · rcases h.2.1.2.2.2.2.nn hb hk with q | q
        · exact absurd g q
        · exact eq_t g (eq_b (yOwn1 q) (eq_f i10 tail))
      · exact eq_f g tail
