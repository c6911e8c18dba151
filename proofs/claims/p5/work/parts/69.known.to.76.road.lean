section
/-! STEPS OF BOTH READERS: names to be given, names that are known -/
theorem KR.nm {kd pl va sg lx vy : Int32} {wd : Int64} {L s : Nat} (h : KR kd pl va sg lx vy wd L s) (hk : kd = 257) : sg = 1 ∧ ∃ v w, WR v w ∧ va = nI v ∧ wd = lN w ∧ ∀ i, i < 25 → ¬ wd = lN (ownL i) := by
  rcases h with h | h | h | h | h
  · rw [hk] at h; exact absurd h.1 (by decide)
  · rw [hk] at h; exact absurd h.1 (by decide)
  · rw [hk] at h; exact absurd h.1 (by decide)
  · rw [hk] at h; exact absurd h.1.2 (by decide)
  · obtain ⟨_, h3, _, _, v, w, k, hw, hd, e1, e2, e3⟩ := h
    refine ⟨h3, v, w, hw, e2, e3, fun i hi g => ?_⟩
    rw [e3] at g
    have := (hd.2 i hi).mpr ((hw.iff (own_WR hi)).mpr ((pk_lEQ (Nat.lt_trans hw.w_lt (by decide)) (Nat.lt_trans (own_WR hi).w_lt (by decide))).mp g))
    rw [hk] at e1
    have := (nI_eq (a := 257) (b := k) (by decide) (by omega)).mp e1
    omega
theorem KR.nn {kd pl va sg lx vy : Int32} {wd : Int64} {L s : Nat} (h : KR kd pl va sg lx vy wd L s) (hb : ¬ kd = 258) (hk : ¬ kd = 257) : ¬ sg = 1 ∨ ∃ i, i < 25 ∧ wd = lN (ownL i) := by
  rcases h with h | h | h | h | h
  · exact Or.inl (by rw [h.2.2.1]; decide)
  · exact absurd h.1 hb
  · exact Or.inl (by rw [h.2.2.1]; decide)
  · exact Or.inl (by rw [h.2.2.1]; decide)
  · obtain ⟨_, h3, _, _, v, w, k, hw, hd, e1, e2, e3⟩ := h
    right
    rcases hd.1 with q | q
    · rw [q] at e1; exact absurd e1 hk
    · refine ⟨k - 260, by omega, ?_⟩
      have hi : k - 260 < 25 := by omega
      rw [e3]
      exact congrArg lN ((hw.iff (own_WR hi)).mp ((hd.2 (k - 260) hi).mp (by omega)))
theorem yOwn0 {n0 : Nat} {y : Int64} {M : Mem} (h : ∀ i, i < 25 → ¬ y = lN (ownL i)) : fX12_isOwn n0 y M = some (0, M) := by
  obtain ⟨u, e, q | ⟨_, i, hi, q⟩⟩ := yOwn (n0 := n0) (y := y) (M := M)
  · rw [e, q.1]
  · exact absurd q (h i hi)
theorem yOwn1 {n0 : Nat} {y : Int64} {M : Mem} (h : ∃ i, i < 25 ∧ y = lN (ownL i)) : fX12_isOwn n0 y M = some (1, M) := by
  obtain ⟨u, e, q | q⟩ := yOwn (n0 := n0) (y := y) (M := M)
  · obtain ⟨i, hi, g⟩ := h
    exact absurd g (q.2 i hi)
  · rw [e, q.1]
/-- names of a town that is read: its place q, its bank b -/
def NmR (q b nt nc nd : Nat) (MX MY : Mem) : Prop :=
  (gI MX (128 * q + 1) = nI nt ∧ gA MY 2 b = nI nt ∧ NmS 6 nt (gA MX (q + 1)) (fun i => gB MY 18 (6 * b + i))) ∧
  (gI MX (128 * q + 5) = nI nc ∧ gA MY 5 b = nI nc ∧ NmS 5 nc (gA MX (q + 4)) (fun i => gB MY 19 (5 * b + i))) ∧
  (gI MX (128 * q + 12) = nI nd ∧ gA MY 10 b = nI nd ∧ NmS 6 nd (gA MX (q + 9)) (fun i => gB MY 20 (6 * b + i)))
def At (q b : Nat) (MX MY : Mem) : Prop := gR MX 130 = q ∧ (q = 31 ∨ q = 47) ∧ gI MY 34 = nI b ∧ b ≤ 1
theorem n6 (b i : Nat) : (6 : Int32) * nI b + nI i = nI (6 * b + i) := by rw [← nI_add, ← nI_mul]; rfl
theorem n5 (b i : Nat) : (5 : Int32) * nI b + nI i = nI (5 * b + i) := by rw [← nI_add, ← nI_mul]; rfl
theorem yN0 {n0 b i : Nat} {M : Mem} (hb : b ≤ 1) (hi : i < 6) : fX12_nameOf n0 (nI b) 0 (nI i) M = some (gB M 18 (6 * b + i), M) := by
  unfold fX12_nameOf
  refine eq_t rfl (eq_f (by rw [n6]; exact nI_in (by omega) (by decide)) ?_)
  rw [n6, nI_clamp (by omega)]
theorem yN1 {n0 b i : Nat} {M : Mem} (hb : b ≤ 1) (hi : i < 5) : fX12_nameOf n0 (nI b) 1 (nI i) M = some (gB M 19 (5 * b + i), M) := by
  unfold fX12_nameOf
  refine eq_f i10 (eq_t rfl (eq_f (by rw [n5]; exact nI_in (by omega) (by decide)) ?_))
  rw [n5, nI_clamp (by omega)]
theorem yN2 {n0 b i : Nat} {M : Mem} (hb : b ≤ 1) (hi : i < 6) : fX12_nameOf n0 (nI b) 2 (nI i) M = some (gB M 20 (6 * b + i), M) := by
  unfold fX12_nameOf
  refine eq_f (by decide) (eq_f (by decide) (eq_f (by rw [n6]; exact nI_in (by omega) (by decide)) ?_))
  rw [n6, nI_clamp (by omega)]
theorem yM0 {n0 b : Nat} {M : Mem} (hb : b ≤ 1) : fX12_manyOf n0 (nI b) 0 M = some (gA M 2 b, M) := by
  unfold fX12_manyOf
  refine eq_t rfl (eq_f (nI_in (by omega) (by decide)) ?_)
  rw [nI_clamp (by omega)]
theorem yM1 {n0 b : Nat} {M : Mem} (hb : b ≤ 1) : fX12_manyOf n0 (nI b) 1 M = some (gA M 5 b, M) := by
  unfold fX12_manyOf
  refine eq_f i10 (eq_t rfl (eq_f (nI_in (by omega) (by decide)) ?_))
  rw [nI_clamp (by omega)]
theorem yM2 {n0 b : Nat} {M : Mem} (hb : b ≤ 1) : fX12_manyOf n0 (nI b) 2 M = some (gA M 10 b, M) := by
  unfold fX12_manyOf
  refine eq_f (by decide) (eq_f (by decide) (eq_f (nI_in (by omega) (by decide)) ?_))
  rw [nI_clamp (by omega)]
theorem ln_1 {q : Nat} (h : q = 31 ∨ q = 47) : LX.ln (q + 1) = 6 := by rcases h with rfl | rfl <;> rfl
theorem ln_4 {q : Nat} (h : q = 31 ∨ q = 47) : LX.ln (q + 4) = 5 := by rcases h with rfl | rfl <;> rfl
theorem ln_9 {q : Nat} (h : q = 31 ∨ q = 47) : LX.ln (q + 9) = 6 := by rcases h with rfl | rfl <;> rfl
theorem find0 {n0 q b nt nc nd v w : Nat} {MX MY : Mem} (hn : 1601 ≤ n0) (hA : At q b MX MY) (hN : NmR q b nt nc nd MX MY) (hw : WR v w) : ∃ r, fX9_findThing n0 q (nI v) MX = some (r, MX) ∧ fX12_named n0 0 (lN w) MY = some (r, MY) ∧ ((r = -1 ∧ ∀ i, i < nt → ¬ gA MX (q + 1) i = nI v) ∨ ∃ i, i < nt ∧ r = nI i) := by
  obtain ⟨h1, h2, h3⟩ := hN.1
  have := h3.1
  obtain ⟨r, a1, a2, a3⟩ := find2 (n0 := n0) (sort := 0) hw (ln_1 hA.2.1) (by decide) h3 (by rw [hA.2.2.1, yM0 hA.2.2.2, h2]) (fun i hi => by rw [hA.2.2.1, yN0 hA.2.2.2 (by omega)]) n0 0 (by omega) (by omega) (fun i hi => by omega)
  refine ⟨r, ?_, a2, a3⟩
  unfold fX9_findThing
  rw [h1]
  exact eq_b a1 rfl
theorem find1 {n0 q b nt nc nd v w : Nat} {MX MY : Mem} (hn : 1601 ≤ n0) (hA : At q b MX MY) (hN : NmR q b nt nc nd MX MY) (hw : WR v w) : ∃ r, fX9_findCorner n0 q (nI v) MX = some (r, MX) ∧ fX12_named n0 1 (lN w) MY = some (r, MY) ∧ ((r = -1 ∧ ∀ i, i < nc → ¬ gA MX (q + 4) i = nI v) ∨ ∃ i, i < nc ∧ r = nI i) := by
  obtain ⟨h1, h2, h3⟩ := hN.2.1
  have := h3.1
  obtain ⟨r, a1, a2, a3⟩ := find2 (n0 := n0) (sort := 1) hw (ln_4 hA.2.1) (by decide) h3 (by rw [hA.2.2.1, yM1 hA.2.2.2, h2]) (fun i hi => by rw [hA.2.2.1, yN1 hA.2.2.2 (by omega)]) n0 0 (by omega) (by omega) (fun i hi => by omega)
  refine ⟨r, ?_, a2, a3⟩
  unfold fX9_findCorner
  rw [h1]
  exact eq_b a1 rfl
theorem find2d {n0 q b nt nc nd v w : Nat} {MX MY : Mem} (hn : 1601 ≤ n0) (hA : At q b MX MY) (hN : NmR q b nt nc nd MX MY) (hw : WR v w) : ∃ r, fX9_findDoing n0 q (nI v) MX = some (r, MX) ∧ fX12_named n0 2 (lN w) MY = some (r, MY) ∧ ((r = -1 ∧ ∀ i, i < nd → ¬ gA MX (q + 9) i = nI v) ∨ ∃ i, i < nd ∧ r = nI i) := by
  obtain ⟨h1, h2, h3⟩ := hN.2.2
  have := h3.1
  obtain ⟨r, a1, a2, a3⟩ := find2 (n0 := n0) (sort := 2) hw (ln_9 hA.2.1) (by decide) h3 (by rw [hA.2.2.1, yM2 hA.2.2.2, h2]) (fun i hi => by rw [hA.2.2.1, yN2 hA.2.2.2 (by omega)]) n0 0 (by omega) (by omega) (fun i hi => by omega)
  refine ⟨r, ?_, a2, a3⟩
  unfold fX9_findDoing
  rw [h1]
  exact eq_b a1 rfl
-- a name to be given
def OutW (L s : Nat) (MX MY : Mem) (rx : Option (Int32 × Mem)) (ry : Option (Int64 × Mem)) : Prop :=
  (∃ v w MX' MY' s', WR v w ∧ rx = some (nI v, MX') ∧ ry = some (lN w, MY') ∧ s < s' ∧ PR L s' MX' MY' ∧ FI 386 392 MX MX' ∧ FrY MY MY') ∨ (∃ MX' MY' u, rx = some (-1, MX') ∧ ry = some (u, MY') ∧ Flt MX' MY' ∧ FI 386 392 MX MX' ∧ FrY MY MY')
theorem yfreshF {n0 : Nat} {M : Mem} (h : ¬ gI M 8 ≤ 0) : fX12_fresh n0 M = some (0, M) := by
  unfold fX12_fresh
  exact eq_b (ylexF h) (eq_f h rfl)
theorem yf83 {n0 : Nat} {M : Mem} (h : ¬ gI M 8 = 0) : fX12_fresh_83 n0 M = some (gL M 7, M) := by
  unfold fX12_fresh_83
  exact eq_n (eq_f h rfl)
theorem yfl {n0 u : Nat} {x : Int32} {M : Mem} (h : ¬ gI M 8 = 0) : loopN (bX12_fresh_43 n0) (fun _ _ => none) (u + 1) x M = some (gL M 7, M) := by
  rw [lpS, bX12_fresh_43]
  by_cases g : (2 : Int32) < x
  · exact eq_t g (yf83 h)
  · exact eq_f g (eq_f h (yf83 h))
theorem newP {n0 L s q b nt nc nd : Nat} {MX MY : Mem} (hn : 1601 ≤ n0) (h : PR L s MX MY) (hA : At q b MX MY) (hN : NmR q b nt nc nd MX MY) : OutW L s MX MY (fX4_newName n0 MX) (fX12_fresh n0 MY) := by
  obtain ⟨m, rfl⟩ : ∃ m, n0 = m + 4 := ⟨n0 - 4, by omega⟩
  have e8 : gI MY 8 ≤ 0 := by rw [h.f8]; exact i00
  by_cases hb : gI MX 386 = 258
  · refine Or.inr ⟨sI (sI MX 391 1) 392 (gI MX 388), sI (sI MY 8 1) 9 (gI MX 388), 0, ?_, ?_, Flt.mk (k := 1) (by decide) (by decide), FIf, FYf⟩
    · unfold fX4_newName
      exact eq_n (eq_f (by rw [hb]; decide) (eq_b xfailH rfl))
    · unfold fX12_fresh
      exact eq_b (ylexB h hb) (eq_f (n8f (k := 1) (by decide) (by decide)) rfl)
  by_cases hk : gI MX 386 = 257
  · obtain ⟨h3, v, w, hw, e2, e3, hno⟩ := h.2.1.2.2.2.2.nm hk
    obtain ⟨r0, x0, y0, c0⟩ := find0 (n0 := m + 4) hn hA hN hw
    obtain ⟨r1, x1, y1, c1⟩ := find1 (n0 := m + 4) hn hA hN hw
    obtain ⟨r2, x2, y2, c2⟩ := find2d (n0 := m + 4) hn hA hN hw
    rw [← hA.1, ← e2] at x0 x1 x2
    rw [← e3] at y0 y1 y2
    have xf : fX8_fail (m + 4) 2 (gI MX 387) MX = some (0, sI (sI MX 391 2) 392 (nI s)) := by rw [h.st]; rfl
    have yb : fX12_blame (m + 4) 2 (gI MY 4) MY = some (sI (sI MY 8 2) 9 (nI s)) := by rw [h.at_]; exact yblame0 h.f8
    have lit1 : (0 : Int32) + 1 = 1 := by decide
    have lit2 : (1 : Int32) + 1 = 2 := by decide
    have lit3 : (2 : Int32) + 1 = 3 := by decide
    have y67 : ∀ u : Nat, loopN (bX12_fresh_43 (m + 4)) (fun _ _ => none) (u + 1) 3 MY = fX12_fresh_83 (m + 4) MY := fun u => by
      rw [lpS, bX12_fresh_43]
      exact eq_t (by decide) rfl
    have bad : (∃ i, i < 6 ∧ (r0 = nI i ∨ (r0 = -1 ∧ (r1 = nI i ∨ (r1 = -1 ∧ r2 = nI i))))) → OutW L s MX MY (fX4_newName (m + 4) MX) (fX12_fresh (m + 4) MY) := by
      rintro ⟨i, hi, g⟩
      have ni : ¬ nI i = -1 := nI_m1 (by omega)
      refine Or.inr ⟨sI (sI MX 391 2) 392 (nI s), sI (sI MY 8 2) 9 (nI s), gL (sI (sI MY 8 2) 9 (nI s)) 7, ?_, ?_, Flt.mk (k := 2) (by decide) (by decide), FIf, FYf⟩
      · unfold fX4_newName fX4_newName_67
        refine eq_n (eq_t hk (eq_b x0 ?_))
        rcases g with g | ⟨g0, g⟩
        · exact eq_f (by rw [g]; exact ni) (eq_b xf rfl)
        · refine eq_t g0 (eq_b x1 ?_)
          rcases g with g | ⟨g1, g⟩
          · exact eq_f (by rw [g]; exact ni) (eq_b xf rfl)
          · exact eq_t g1 (eq_b x2 (eq_f (by rw [g]; exact ni) (eq_b xf rfl)))
      · have n2 : ¬ gI (sI (sI MY 8 2) 9 (nI s)) 8 = 0 := pos_ne (n8f (k := 2) (by decide) (by decide))
        unfold fX12_fresh fX12_fresh_41 fX12_fresh_43
        refine eq_b (ylexG h hb) (eq_t e8 (eq_t h3 (eq_b (yOwn0 hno) (eq_t rfl ?_))))
        show loopN (bX12_fresh_43 (m + 4)) (fun _ _ => none) (m + 3 + 1) 0 MY = _
        rw [lpS, bX12_fresh_43]
        refine eq_f (by decide) (eq_t h.f8 (eq_b y0 ?_))
        unfold fX12_fresh_77
        rcases g with g | ⟨g0, g⟩
        · exact eq_f (by rw [g]; exact ni) (eq_b yb (yfl n2))
        · refine eq_t g0 ?_
          rw [lit1]
          show loopN (bX12_fresh_43 (m + 4)) (fun _ _ => none) (m + 2 + 1) 1 MY = _
          rw [lpS, bX12_fresh_43]
          refine eq_f (by decide) (eq_t h.f8 (eq_b y1 ?_))
          unfold fX12_fresh_77
          rcases g with g | ⟨g1, g⟩
          · exact eq_f (by rw [g]; exact ni) (eq_b yb (yfl n2))
          · refine eq_t g1 ?_
            rw [lit2]
            show loopN (bX12_fresh_43 (m + 4)) (fun _ _ => none) (m + 1 + 1) 2 MY = _
            rw [lpS, bX12_fresh_43]
            refine eq_f (by decide) (eq_t h.f8 (eq_b y2 ?_))
            unfold fX12_fresh_77
            exact eq_f (by rw [g]; exact ni) (eq_b yb (yfl n2))
    have t6 := hN.1.2.2.1
    have c5 := hN.2.1.2.2.1
    have d6 := hN.2.2.2.2.1
    rcases c0 with ⟨g0, _⟩ | ⟨i, hi, g⟩
    · rcases c1 with ⟨g1, _⟩ | ⟨i, hi, g⟩
      · rcases c2 with ⟨g2, _⟩ | ⟨i, hi, g⟩
        · obtain ⟨MX', MY', s', ax, ay, hs, hP, fx, fy⟩ := h.adv hn (h.2.1.2.2.2.2.lt (by rw [hk]; decide))
          refine Or.inl ⟨v, w, MX', MY', s', hw, ?_, ?_, hs, hP, fx.wk (by decide) (by decide), fy.Y⟩
          · unfold fX4_newName
            rw [← e2]
            exact eq_n (eq_t hk (eq_b x0 (eq_t g0 (eq_b x1 (eq_t g1 (eq_b x2 (eq_t g2 (eq_b ax rfl))))))))
          · unfold fX12_fresh fX12_fresh_41 fX12_fresh_43
            refine eq_b (ylexG h hb) (eq_t e8 (eq_t h3 (eq_b (yOwn0 hno) (eq_t rfl ?_))))
            show loopN (bX12_fresh_43 (m + 4)) (fun _ _ => none) (m + 3 + 1) 0 MY = _
            rw [lpS, bX12_fresh_43]
            refine eq_f (by decide) (eq_t h.f8 (eq_b y0 (eq_t g0 ?_)))
            unfold fX12_fresh_77
            rw [lit1]
            show loopN (bX12_fresh_43 (m + 4)) (fun _ _ => none) (m + 2 + 1) 1 MY = _
            rw [lpS, bX12_fresh_43]
            refine eq_f (by decide) (eq_t h.f8 (eq_b y1 (eq_t g1 ?_)))
            unfold fX12_fresh_77
            rw [lit2]
            show loopN (bX12_fresh_43 (m + 4)) (fun _ _ => none) (m + 1 + 1) 2 MY = _
            rw [lpS, bX12_fresh_43]
            refine eq_f (by decide) (eq_t h.f8 (eq_b y2 (eq_t g2 ?_)))
            unfold fX12_fresh_77
            rw [lit3]
            refine (y67 m).trans ?_
            unfold fX12_fresh_83
            rw [e3]
            exact eq_n (eq_t h.f8 (eq_b ay rfl))
        · exact bad ⟨i, by omega, Or.inr ⟨g0, Or.inr ⟨g1, g⟩⟩⟩
      · exact bad ⟨i, by omega, Or.inr ⟨g0, Or.inl g⟩⟩
    · exact bad ⟨i, by omega, Or.inl g⟩
  · refine Or.inr ⟨sI (sI MX 391 1) 392 (gI MX 388), sI (sI MY 8 1) 9 (gI MX 388), gL (sI (sI MY 8 1) 9 (gI MX 388)) 7, ?_, ?_, Flt.mk (k := 1) (by decide) (by decide), FIf, FYf⟩
    · unfold fX4_newName
      exact eq_n (eq_f hk (eq_b xfailH rfl))
    · have n2 : ¬ gI (sI (sI MY 8 1) 9 (gI MX 388)) 8 = 0 := pos_ne (n8f (k := 1) (by decide) (by decide))
      have tail : fX12_fresh_32 (m + 4) MY = some (gL (sI (sI MY 8 1) 9 (gI MX 388)) 7, sI (sI MY 8 1) 9 (gI MX 388)) := by
        unfold fX12_fresh_32 fX12_fresh_41 fX12_fresh_43
        rw [h.at_, h.pl hb]
        rw [h.pl hb] at n2
        exact eq_b (yblame0 h.f8) (yfl n2)
      unfold fX12_fresh
      refine eq_b (ylexG h hb) (eq_t e8 ?_)
      by_cases g : gI MY 3 = 1
      · rcases h.2.1.2.2.2.2.nn hb hk with q | q
        · exact absurd g q
        · exact eq_t g (eq_b (yOwn1 q) (eq_f i10 tail))
      · exact eq_f g tail
end
section
/-! STEPS OF BOTH READERS: names that are known -/
def Hs (m : Int32) (i : Nat) : Prop := ((m >>> (nI i &&& 31)) &&& (1 : Int32)) = (1 : Int32)
theorem yhas {n0 i : Nat} {m : Int32} {M : Mem} (h : Hs m i) : fX12_has2 n0 m (nI i) M = some (1, M) := by
  unfold fX12_has2
  exact eq_t h rfl
theorem yhasN {n0 i : Nat} {m : Int32} {M : Mem} (h : ¬ Hs m i) : fX12_has2 n0 m (nI i) M = some (0, M) := by
  unfold fX12_has2
  exact eq_f h rfl
theorem yk91F {n0 : Nat} {x : Int32} {M : Mem} (h : ¬ gI M 8 ≤ 0) : fX12_knownBut_91 n0 x M = some (0, M) := by
  unfold fX12_knownBut_91 fX12_knownBut_102
  exact eq_f (pos_ne h) (eq_f h rfl)
theorem yk41F {n0 : Nat} {x y : Int32} {M : Mem} (h : ¬ gI M 8 ≤ 0) : fX12_knownBut_41 n0 x y M = some (0, M) := by
  unfold fX12_knownBut_41 fX12_knownBut_61
  exact eq_f h (eq_f (pos_ne h) (yk91F h))
theorem ykF {n0 : Nat} {x y : Int32} {M : Mem} (h : ¬ gI M 8 ≤ 0) : fX12_knownBut n0 x y M = some (0, M) := by
  unfold fX12_knownBut
  exact eq_b (ylexF h) (eq_f h rfl)
theorem ykA {n0 L s : Nat} {x y : Int32} {MX MY : Mem} (h : PR L s MX MY) (hk : ¬ gI MX 386 = 257) : fX12_knownBut n0 x y MY = some (0, sI (sI MY 8 1) 9 (gI MX 388)) := by
  have n1 : ¬ gI (sI (sI MY 8 1) 9 (gI MX 388)) 8 ≤ 0 := n8f (k := 1) (by decide) (by decide)
  unfold fX12_knownBut
  by_cases hb : gI MX 386 = 258
  · exact eq_b (ylexB h hb) (eq_f n1 rfl)
  · have e8 : gI MY 8 ≤ 0 := by rw [h.f8]; exact i00
    have tail : fX12_knownBut_32 n0 x y MY = some (0, sI (sI MY 8 1) 9 (gI MX 388)) := by
      unfold fX12_knownBut_32
      rw [h.at_, h.pl hb]
      rw [h.pl hb] at n1
      exact eq_b (yblame0 h.f8) (yk41F n1)
    refine eq_b (ylexG h hb) (eq_t e8 ?_)
    by_cases g : gI MY 3 = 1
    · rcases h.2.1.2.2.2.2.nn hb hk with q | q
      · exact absurd g q
      · exact eq_t g (eq_b (yOwn1 q) (eq_f i10 tail))
    · exact eq_f g tail
theorem yk_in {n0 L s : Nat} {x y r : Int32} {MX MY : Mem} (h : PR L s MX MY) (hk : gI MX 386 = 257) (hr : fX12_named n0 x (gL MY 7) MY = some (r, MY)) : fX12_knownBut n0 x y MY = fX12_knownBut_61 n0 y r MY := by
  have hb : ¬ gI MX 386 = 258 := by rw [hk]; decide
  obtain ⟨h3, v, w, hw, e2, e3, hno⟩ := h.2.1.2.2.2.2.nm hk
  have e8 : gI MY 8 ≤ 0 := by rw [h.f8]; exact i00
  unfold fX12_knownBut fX12_knownBut_41
  exact eq_b (ylexG h hb) (eq_t e8 (eq_t h3 (eq_b (yOwn0 hno) (eq_t rfl (eq_t e8 (eq_b hr rfl))))))
theorem yk82 {n0 L s : Nat} {x : Int32} {MX MY : Mem} (h : PR L s MX MY) : fX12_knownBut_82 n0 x MY = some (0, sI (sI MY 8 3) 9 (nI s)) := by
  unfold fX12_knownBut_82
  rw [h.at_]
  exact eq_b (yblame0 h.f8) (yk91F (n8f (k := 3) (by decide) (by decide)))
theorem yk61a {n0 L s : Nat} {y : Int32} {MX MY : Mem} (h : PR L s MX MY) : fX12_knownBut_61 n0 y (-1) MY = some (0, sI (sI MY 8 3) 9 (nI s)) := by
  unfold fX12_knownBut_61
  exact eq_t h.f8 (eq_t rfl (yk82 h))
theorem yk61b {n0 L s i : Nat} {y : Int32} {MX MY : Mem} (h : PR L s MX MY) (hi : i < 6) (hh : Hs y i) : fX12_knownBut_61 n0 y (nI i) MY = some (0, sI (sI MY 8 3) 9 (nI s)) := by
  unfold fX12_knownBut_61
  exact eq_t h.f8 (eq_f (nI_m1 (by omega)) (eq_b (yhas hh) (eq_f i10 (yk82 h))))
theorem yk61c {n0 L s i : Nat} {y : Int32} {MX MY MY' : Mem} (h : PR L s MX MY) (hi : i < 6) (hh : ¬ Hs y i) (ha : fX12_ahead n0 MY = some MY') (h8 : gI MY' 8 = 0) : fX12_knownBut_61 n0 y (nI i) MY = some (nI i, MY') := by
  unfold fX12_knownBut_61 fX12_knownBut_91 fX12_knownBut_102
  exact eq_t h.f8 (eq_f (nI_m1 (by omega)) (eq_b (yhasN hh) (eq_t rfl (eq_t h.f8 (eq_b ha (eq_t (by rw [h8]; exact i00) rfl))))))
/-- a corner that is known -/
theorem corP {n0 L s q b nt nc nd : Nat} {MX MY : Mem} (y : Int32) (hn : 1601 ≤ n0) (h : PR L s MX MY) (hA : At q b MX MY) (hN : NmR q b nt nc nd MX MY) :
    (∃ MX' MY', fX4_cornerHere n0 MX = some (-1, MX') ∧ fX12_knownBut n0 1 y MY = some (0, MY') ∧ Flt MX' MY' ∧ FI 386 392 MX MX' ∧ FrY MY MY') ∨
    (∃ i, i < nc ∧ fX4_cornerHere n0 MX = some (nI i, MX) ∧ (Hs y i → fX12_knownBut n0 1 y MY = some (0, sI (sI MY 8 3) 9 (nI s))) ∧ (¬ Hs y i → ∃ MX' MY' s', fX8_advance n0 MX = some MX' ∧ fX12_knownBut n0 1 y MY = some (nI i, MY') ∧ s < s' ∧ PR L s' MX' MY' ∧ FI 386 392 MX MX' ∧ FrY MY MY')) := by
  by_cases hk : gI MX 386 = 257
  · obtain ⟨h3, v, w, hw, e2, e3, hno⟩ := h.2.1.2.2.2.2.nm hk
    obtain ⟨r1, x1, y1, c1⟩ := find1 (n0 := n0) hn hA hN hw
    rw [← hA.1, ← e2] at x1
    rw [← e3] at y1
    have xf : fX8_fail n0 3 (gI MX 387) MX = some (0, sI (sI MX 391 3) 392 (nI s)) := by rw [h.st]; rfl
    have c5 := hN.2.1.2.2.1
    rcases c1 with ⟨g1, _⟩ | ⟨i, hi, g1⟩
    · subst g1
      refine Or.inl ⟨sI (sI MX 391 3) 392 (nI s), sI (sI MY 8 3) 9 (nI s), ?_, ?_, Flt.mk (k := 3) (by decide) (by decide), FIf, FYf⟩
      · unfold fX4_cornerHere
        exact eq_t hk (eq_b x1 (eq_t rfl (eq_b xf rfl)))
      · rw [yk_in h hk y1]
        exact yk61a h
    · subst g1
      refine Or.inr ⟨i, hi, ?_, fun hh => ?_, fun hh => ?_⟩
      · unfold fX4_cornerHere
        exact eq_t hk (eq_b x1 (eq_f (nI_m1 (by omega)) rfl))
      · rw [yk_in h hk y1]
        exact yk61b h (by omega) hh
      · obtain ⟨MX', MY', s', ax, ay, hs, hP, fx, fy⟩ := h.adv hn (h.2.1.2.2.2.2.lt (by rw [hk]; decide))
        refine ⟨MX', MY', s', ax, ?_, hs, hP, fx.wk (by decide) (by decide), fy.Y⟩
        rw [yk_in h hk y1]
        exact yk61c h (by omega) hh ay hP.f8
  · refine Or.inl ⟨sI (sI MX 391 1) 392 (gI MX 388), sI (sI MY 8 1) 9 (gI MX 388), ?_, ykA h hk, Flt.mk (k := 1) (by decide) (by decide), FIf, FYf⟩
    unfold fX4_cornerHere
    exact eq_f hk (eq_b xfailH rfl)
theorem Hs0 {i : Nat} (hi : i < 6) : ¬ Hs 0 i := by
  have h : ∀ i, i < 6 → ¬ ((((0 : Int32) >>> (nI i &&& 31)) &&& (1 : Int32)) = (1 : Int32)) := by decide +kernel
  exact h i hi
/-- a thing that is known, as the class's readPalm does it -/
theorem thgP {n0 L s q b nt nc nd : Nat} {MX MY : Mem} (hn : 1601 ≤ n0) (h : PR L s MX MY) (hA : At q b MX MY) (hN : NmR q b nt nc nd MX MY) :
    (¬ gI MX 386 = 257 ∧ fX12_knownBut n0 0 0 MY = some (0, sI (sI MY 8 1) 9 (gI MX 388))) ∨
    (gI MX 386 = 257 ∧ fX9_findThing n0 (gR MX 130) (gI MX 389) MX = some (-1, MX) ∧ fX12_knownBut n0 0 0 MY = some (0, sI (sI MY 8 3) 9 (nI s))) ∨
    (gI MX 386 = 257 ∧ ∃ i, i < nt ∧ fX9_findThing n0 (gR MX 130) (gI MX 389) MX = some (nI i, MX) ∧ ∃ MX' MY' s', fX8_advance n0 MX = some MX' ∧ fX12_knownBut n0 0 0 MY = some (nI i, MY') ∧ s < s' ∧ PR L s' MX' MY' ∧ FI 386 392 MX MX' ∧ FrY MY MY') := by
  by_cases hk : gI MX 386 = 257
  · obtain ⟨h3, v, w, hw, e2, e3, hno⟩ := h.2.1.2.2.2.2.nm hk
    obtain ⟨r1, x1, y1, c1⟩ := find0 (n0 := n0) hn hA hN hw
    rw [← hA.1, ← e2] at x1
    rw [← e3] at y1
    have c5 := hN.1.2.2.1
    rcases c1 with ⟨g1, _⟩ | ⟨i, hi, g1⟩
    · subst g1
      refine Or.inr (Or.inl ⟨hk, x1, ?_⟩)
      rw [yk_in h hk y1]
      exact yk61a h
    · subst g1
      obtain ⟨MX', MY', s', ax, ay, hs, hP, fx, fy⟩ := h.adv hn (h.2.1.2.2.2.2.lt (by rw [hk]; decide))
      refine Or.inr (Or.inr ⟨hk, i, hi, x1, MX', MY', s', ax, ?_, hs, hP, fx.wk (by decide) (by decide), fy.Y⟩)
      rw [yk_in h hk y1]
      exact yk61c h (by omega) (Hs0 (by omega)) ay hP.f8
  · exact Or.inl ⟨hk, ykA h hk⟩
/-- the first word of a statement -/
theorem fstP {n0 L s : Nat} {full : Prop} [Decidable full] {MX MY : Mem} (hn : 1601 ≤ n0) (h : PR L s MX MY) (hb : ¬ gI MX 386 = 259) (hb2 : ¬ gI MX 386 = 258) :
    (full → fX4_skipFirst n0 (bI (¬ full)) MX = some (0, sI (sI MX 391 6) 392 (nI s)) ∧ fX12_counts n0 (bI full) MY = some (0, sI (sI MY 8 6) 9 (nI s))) ∧
    (¬ full → ∃ MX' MY' s', fX4_skipFirst n0 (bI (¬ full)) MX = some (1, MX') ∧ fX12_counts n0 (bI full) MY = some (1, MY') ∧ s < s' ∧ PR L s' MX' MY' ∧ FI 386 392 MX MX' ∧ FrY MY MY') := by
  constructor
  · intro hf
    constructor
    · unfold fX4_skipFirst
      rw [h.st]
      exact eq_t (bI_f (fun g => g hf)) (eq_b xfail (eq_t (Or.inl rfl) rfl))
    · have n6 : ¬ gI (sI (sI MY 8 6) 9 (nI s)) 8 = 0 := pos_ne (n8f (k := 6) (by decide) (by decide))
      unfold fX12_counts fX12_counts_21 fX12_counts_32
      rw [h.at_]
      exact eq_t h.f8 (eq_f (bz hf) (eq_b (yblame0 h.f8) (eq_f n6 (eq_f n6 rfl))))
  · intro hf
    obtain ⟨MX', MY', s', ax, ay, hs, hP, fx, fy⟩ := h.adv hn (h.2.1.2.2.2.2.lt hb)
    refine ⟨MX', MY', s', ?_, ?_, hs, hP, fx.wk (by decide) (by decide), fy.Y⟩
    · unfold fX4_skipFirst
      exact eq_f (bz hf) (eq_b ax rfl)
    · unfold fX12_counts fX12_counts_21 fX12_counts_32
      exact eq_t h.f8 (eq_t (bI_f hf) (eq_t h.f8 (eq_b ay (eq_t hP.f8 rfl))))
end
section
/-! A TOWN ON BOTH SIDES: its place q in the class, its bank b in the reference; what reading into it may change -/
def regA (b a i : Nat) : Prop := ((a = 2 ∨ a = 5 ∨ a = 7 ∨ a = 10 ∨ a = 13) ∧ i = b) ∨ ((a = 3 ∨ a = 4 ∨ a = 11 ∨ a = 12) ∧ 6 * b ≤ i ∧ i < 6 * b + 6) ∨ (a = 6 ∧ 5 * b ≤ i ∧ i < 5 * b + 5) ∨ ((a = 8 ∨ a = 9) ∧ 25 * b ≤ i ∧ i < 25 * b + 25) ∨ ((a = 14 ∨ a = 15) ∧ 2 * b ≤ i ∧ i < 2 * b + 2) ∨ ((a = 16 ∨ a = 17) ∧ 1600 * b ≤ i ∧ i < 1600 * b + 1600) ∨ (21 ≤ a ∧ a ≤ 26)
def regB (b a i : Nat) : Prop := ((a = 18 ∨ a = 20) ∧ 6 * b ≤ i ∧ i < 6 * b + 6) ∨ (a = 19 ∧ 5 * b ≤ i ∧ i < 5 * b + 5)
def regI (k : Nat) : Prop := (3 ≤ k ∧ k ≤ 9) ∨ k = 12 ∨ k = 33 ∨ k = 35 ∨ k = 41 ∨ k = 42 ∨ k = 44 ∨ k = 45
/-- what the reference may change while it reads into bank b -/
def FY2 (b : Nat) (M M' : Mem) : Prop := (∀ k, ¬ regI k → gI M' k = gI M k) ∧ (∀ a i, ¬ regA b a i → gA M' a i = gA M a i) ∧ (∀ k, k ≠ 7 → gL M' k = gL M k) ∧ (∀ a i, ¬ regB b a i → gB M' a i = gB M a i)
theorem FY2.r {b : Nat} {M : Mem} : FY2 b M M := ⟨fun _ _ => rfl, fun _ _ _ => rfl, fun _ _ => rfl, fun _ _ _ => rfl⟩
theorem FY2.tr {b : Nat} {M M' M2 : Mem} (h : FY2 b M M') (g : FY2 b M' M2) : FY2 b M M2 := ⟨fun k q => (g.1 k q).trans (h.1 k q), fun a i q => (g.2.1 a i q).trans (h.2.1 a i q), fun k q => (g.2.2.1 k q).trans (h.2.2.1 k q), fun a i q => (g.2.2.2 a i q).trans (h.2.2.2 a i q)⟩
theorem FrY.b {b : Nat} {M M' : Mem} (h : FrY M M') : FY2 b M M' := ⟨fun k q => h.1 k (fun g => q (by unfold regI; omega)), fun a i _ => by rw [h.2.1 a id], fun k q => h.2.2.2.1 k q, fun a i _ => by rw [h.2.2.2.2 a id]⟩
theorem FY2.i {b k : Nat} {v : Int32} {M M' : Mem} (h : FY2 b M M') (hk : regI k) : FY2 b M (sI M' k v) := ⟨fun j q => by rw [gI_ne (fun e => q (by rw [e]; exact hk))]; exact h.1 j q, h.2.1, h.2.2.1, h.2.2.2⟩
theorem FY2.a {b a i : Nat} {v : Int32} {M M' : Mem} (h : FY2 b M M') (hk : regA b a i) : FY2 b M (sA M' a i v) := ⟨h.1, fun c j q => by
  rw [gA_sA]
  by_cases e : c = a
  · subst e
    rw [if_pos rfl, if_neg (fun e => q (by rw [e]; exact hk))]
    exact h.2.1 _ _ q
  · rw [if_neg e]
    exact h.2.1 _ _ q, h.2.2.1, h.2.2.2⟩
theorem FY2.bb {b a i : Nat} {v : Int64} {M M' : Mem} (h : FY2 b M M') (hk : regB b a i) : FY2 b M (sB M' a i v) := ⟨h.1, h.2.1, h.2.2.1, fun c j q => by
  rw [gB_sB]
  by_cases e : c = a
  · subst e
    rw [if_pos rfl, if_neg (fun e => q (by rw [e]; exact hk))]
    exact h.2.2.2 _ _ q
  · rw [if_neg e]
    exact h.2.2.2 _ _ q⟩
def rgX (q j : Nat) : Prop := (386 ≤ j ∧ j ≤ 392) ∨ j = 258 ∨ (128 * q < j ∧ j < 128 * q + 2048)
/-- what the class may change while it reads into the town at q -/
def FX2 (q : Nat) (M M' : Mem) : Prop := (∀ k, ¬ rgX q k → gI M' k = gI M k) ∧ (∀ a, ¬ (q ≤ a ∧ a < q + 16) → gA M' a = gA M a) ∧ (∀ k, k ≠ 257 → gR M' k = gR M k)
theorem FX2.r {q : Nat} {M : Mem} : FX2 q M M := ⟨fun _ _ => rfl, fun _ _ => rfl, fun _ _ => rfl⟩
theorem FX2.tr {q : Nat} {M M' M2 : Mem} (h : FX2 q M M') (g : FX2 q M' M2) : FX2 q M M2 := ⟨fun k r => (g.1 k r).trans (h.1 k r), fun a r => (g.2.1 a r).trans (h.2.1 a r), fun k r => (g.2.2 k r).trans (h.2.2 k r)⟩
theorem FI.q {q : Nat} {M M' : Mem} (h : FI 386 392 M M') : FX2 q M M' := ⟨fun k r => h.2 k (by unfold rgX at r; omega), fun a _ => by rw [h.A], fun k _ => by rw [h.R]⟩
theorem FX2.i {q k : Nat} {v : Int32} {M M' : Mem} (h : FX2 q M M') (hk : rgX q k) : FX2 q M (sI M' k v) := ⟨fun j r => by rw [gI_ne (fun e => r (by rw [e]; exact hk))]; exact h.1 j r, h.2.1, h.2.2⟩
theorem FX2.a {q a i : Nat} {v : Int32} {M M' : Mem} (h : FX2 q M M') (hk : q ≤ a ∧ a < q + 16) : FX2 q M (sA M' a i v) := ⟨h.1, fun c r => by rw [gA_sA_ne (fun e => r (by rw [e]; exact hk))]; exact h.2.1 c r, h.2.2⟩
-- the parts of a town
def ThD (nt : Nat) (w l wy ly : Nat → Int32) : Prop := ∀ i, i < nt → w i = wy i ∧ (∃ v, v ≤ 99 ∧ w i = nI v) ∧ l i = ly i ∧ ∃ v, 1 ≤ v ∧ v ≤ 99 ∧ l i = nI v
def PmD (nt nc : Nat) (p py : Nat → Int32) : Prop := ∀ i, i < nc → p i = py i ∧ (p i = -1 ∨ ∃ t, t < nt ∧ p i = nI t)
def DoD (nc nd : Nat) (c h cy hy : Nat → Int32) : Prop := ∀ i, i < nd → c i = cy i ∧ (∃ k, k < nc ∧ c i = nI k) ∧ h i = hy i ∧ ∃ v, v ≤ 23 ∧ h i = nI v
def Jn (f t : Nat → Int32) (k a c : Nat) : Prop := (f k = nI a ∧ t k = nI c) ∨ (f k = nI c ∧ t k = nI a)
def RdD (nc nr : Nat) (f t n : Nat → Int32) (sy : Nat → Int32) : Prop := nr ≤ 10 ∧ (∀ k, k < nr → ∃ a c v, a < nc ∧ c < nc ∧ a ≠ c ∧ 1 ≤ v ∧ v ≤ 30 ∧ f k = nI a ∧ t k = nI c ∧ n k = nI v) ∧ ∀ a c, a < 5 → c < 5 → (sy (5 * a + c) = 0 ∧ ∀ k, k < nr → ¬ Jn f t k a c) ∨ ∃ k, k < nr ∧ Jn f t k a c ∧ sy (5 * a + c) = n k
/-- what a code of the reference is to the class -/
def exS (s : Int32) : Int32 := if s = 1 then -1 else if s = 2 then -2 else if s = 3 then -3 else if s = 4 then -4 else if s = 5 then -5 else if s = 6 then -6 else if s = 30 then 1 else if s = 31 then -7 else if s = 32 then -8 else if s = 33 then -9 else if s = 34 then -10 else if s = 35 then -11 else if s = 36 then -12 else if s = 37 then -13 else if s = 38 then -15 else if s = 39 then -16 else if s = 40 then -17 else if s = 41 then -18 else if s = 42 then -19 else -14
def ex1 (c : Int32 × Int32) : List Int32 := if c.1 = 0 then [c.2] else if c.1 = 43 then [0, -17] else [exS c.1]
def exL (δ : List (Int32 × Int32)) : List Int32 := δ.flatMap ex1
/-- the kinds of what waits (true: a TEST's answer), code by code; at most 60 wait -/
def ty1 (c : Int32 × Int32) (st : List Bool) : Option (List Bool) :=
  if c.1 = 0 then (if st.length < 60 ∧ 0 ≤ c.2 ∧ c.2 ≤ 9999 then some (false :: st) else none)
  else if c.1 = 1 ∨ c.1 = 2 ∨ c.1 = 3 ∨ c.1 = 4 ∨ c.1 = 5 ∨ c.1 = 6 then (if st.length < 60 then some (false :: st) else none)
  else if c.1 = 30 then (if st.length < 60 then some (true :: st) else none)
  else if c.1 = 31 ∨ c.1 = 32 ∨ c.1 = 33 ∨ c.1 = 34 ∨ c.1 = 35 ∨ c.1 = 36 ∨ c.1 = 37 then (match st with | false :: false :: r => some (false :: r) | _ => none)
  else if c.1 = 38 ∨ c.1 = 39 ∨ c.1 = 40 then (match st with | false :: false :: r => some (true :: r) | _ => none)
  else if c.1 = 41 ∨ c.1 = 42 then (match st with | true :: true :: r => some (true :: r) | _ => none)
  else if c.1 = 43 then (match st with | true :: r => if r.length < 59 then some (true :: r) else none | _ => none)
  else if c.1 = 44 then (match st with | false :: false :: true :: r => some (false :: r) | _ => none)
  else none
def tyL : List (Int32 × Int32) → List Bool → Option (List Bool)
  | [], st => some st
  | c :: δ, st => (ty1 c st).bind (tyL δ)
/-- the formula at qf of the class (its steps) -/
def xlist (M : Mem) (qf : Nat) (l : List Int32) : Prop := gI M (128 * qf + 1) = nI l.length ∧ ∀ i (h : i < l.length), gA M (qf + 1) i = l[i]
/-- codes of the reference from c0 on -/
def ylist (M : Mem) (b c0 : Nat) (l : List (Int32 × Int32)) : Prop := ∀ i (h : i < l.length), gA M 16 (1600 * b + (c0 + i)) = l[i].1 ∧ gA M 17 (1600 * b + (c0 + i)) = l[i].2
def FmR (q b C wh : Nat) (MX MY : Mem) : Prop :=
  (gI MX (128 * (q + 12 + 2 * wh) + 1) = 0 ∧ gA MY 14 (2 * b + wh) = -1) ∨
  (∃ c0 δ, 0 < δ.length ∧ c0 + δ.length ≤ C ∧ xlist MX (q + 12 + 2 * wh) (exL δ) ∧ gA MY 14 (2 * b + wh) = nI c0 ∧ gA MY 15 (2 * b + wh) = nI (c0 + δ.length) ∧ ylist MY b c0 δ ∧ tyL δ [] = some [decide (wh = 1)] ∧ (exL δ).length ≤ 1600)
def TownR (q b nt nc nd nr C : Nat) (MX MY : Mem) : Prop :=
  NmR q b nt nc nd MX MY ∧
  ThD nt (gA MX (q + 2)) (gA MX (q + 3)) (fun i => gA MY 3 (6 * b + i)) (fun i => gA MY 4 (6 * b + i)) ∧
  PmD nt nc (gA MX (q + 5)) (fun i => gA MY 6 (5 * b + i)) ∧
  DoD nc nd (gA MX (q + 10)) (gA MX (q + 11)) (fun i => gA MY 11 (6 * b + i)) (fun i => gA MY 12 (6 * b + i)) ∧
  (gI MX (128 * q + 8) = nI nr ∧ gA MY 7 b = nI nr ∧ RdD nc nr (gA MX (q + 6)) (gA MX (q + 7)) (gA MX (q + 8)) (fun i => gA MY 8 (25 * b + i))) ∧
  (∃ p, p ≤ 100 ∧ gI MX (128 * q + 16) = nI p ∧ gA MY 13 b = nI p) ∧
  FmR q b C 0 MX MY ∧ FmR q b C 1 MX MY ∧ C ≤ 1600
/-- cells of a town that tell nothing yet -/
def frX (q nt nc nd nr a i : Nat) : Prop := ((a = q + 1 ∨ a = q + 2 ∨ a = q + 3) ∧ nt ≤ i) ∨ ((a = q + 4 ∨ a = q + 5) ∧ nc ≤ i) ∨ ((a = q + 6 ∨ a = q + 7 ∨ a = q + 8) ∧ nr ≤ i) ∨ ((a = q + 9 ∨ a = q + 10 ∨ a = q + 11) ∧ nd ≤ i)
def frYa (b nt nc nd C a i : Nat) : Prop := ((a = 3 ∨ a = 4) ∧ 6 * b + nt ≤ i) ∨ (a = 6 ∧ 5 * b + nc ≤ i) ∨ ((a = 11 ∨ a = 12) ∧ 6 * b + nd ≤ i) ∨ ((a = 16 ∨ a = 17) ∧ 1600 * b + C ≤ i)
def frYb (b nt nc nd a i : Nat) : Prop := (a = 18 ∧ 6 * b + nt ≤ i) ∨ (a = 19 ∧ 5 * b + nc ≤ i) ∨ (a = 20 ∧ 6 * b + nd ≤ i)
theorem TownR.fine {q b nt nc nd nr C : Nat} {MX MY MX' MY' : Mem} (h : TownR q b nt nc nd nr C MX MY) (h1 : ∀ j, 128 * q < j → j < 128 * q + 2048 → gI MX' j = gI MX j) (h2 : ∀ a i, q ≤ a → a < q + 16 → ¬ frX q nt nc nd nr a i → gA MX' a i = gA MX a i) (h3 : ∀ a i, ¬ (21 ≤ a) → regA b a i → ¬ frYa b nt nc nd C a i → gA MY' a i = gA MY a i) (h4 : ∀ a i, regB b a i → ¬ frYb b nt nc nd a i → gB MY' a i = gB MY a i) : TownR q b nt nc nd nr C MX' MY' := by
  obtain ⟨⟨⟨a1, a2, a3⟩, ⟨a4, a5, a6⟩, ⟨a7, a8, a9⟩⟩, b1, b2, b3, ⟨c1, c2, c3⟩, ⟨p, p1, p2, p3⟩, d1, d2, d3⟩ := h
  have t6 := a3.1
  have c5 := a6.1
  have d6 := a9.1
  refine ⟨⟨⟨?_, ?_, ?_⟩, ⟨?_, ?_, ?_⟩, ⟨?_, ?_, ?_⟩⟩, ?_, ?_, ?_, ⟨?_, ?_, ?_⟩, ⟨p, p1, ?_, ?_⟩, ?_, ?_, d3⟩
  · rw [h1 _ (by omega) (by omega)]; exact a1
  · rw [h3 _ _ (by omega) (by unfold regA; omega) (by unfold frYa; omega)]; exact a2
  · refine ⟨a3.1, fun i hi => ?_⟩
    dsimp only
    rw [h2 _ _ (by omega) (by omega) (by unfold frX; omega), h4 18 (6 * b + i) (by unfold regB; omega) (by unfold frYb; omega)]
    exact a3.2 i hi
  · rw [h1 _ (by omega) (by omega)]; exact a4
  · rw [h3 _ _ (by omega) (by unfold regA; omega) (by unfold frYa; omega)]; exact a5
  · refine ⟨a6.1, fun i hi => ?_⟩
    dsimp only
    rw [h2 _ _ (by omega) (by omega) (by unfold frX; omega), h4 19 (5 * b + i) (by unfold regB; omega) (by unfold frYb; omega)]
    exact a6.2 i hi
  · rw [h1 _ (by omega) (by omega)]; exact a7
  · rw [h3 _ _ (by omega) (by unfold regA; omega) (by unfold frYa; omega)]; exact a8
  · refine ⟨a9.1, fun i hi => ?_⟩
    dsimp only
    rw [h2 _ _ (by omega) (by omega) (by unfold frX; omega), h4 20 (6 * b + i) (by unfold regB; omega) (by unfold frYb; omega)]
    exact a9.2 i hi
  · intro i hi
    dsimp only
    rw [h2 (q + 2) i (by omega) (by omega) (by unfold frX; omega), h2 (q + 3) i (by omega) (by omega) (by unfold frX; omega), h3 3 (6 * b + i) (by omega) (by unfold regA; omega) (by unfold frYa; omega), h3 4 (6 * b + i) (by omega) (by unfold regA; omega) (by unfold frYa; omega)]
    exact b1 i hi
  · intro i hi
    dsimp only
    rw [h2 (q + 5) i (by omega) (by omega) (by unfold frX; omega), h3 6 (5 * b + i) (by omega) (by unfold regA; omega) (by unfold frYa; omega)]
    exact b2 i hi
  · intro i hi
    dsimp only
    rw [h2 (q + 10) i (by omega) (by omega) (by unfold frX; omega), h2 (q + 11) i (by omega) (by omega) (by unfold frX; omega), h3 11 (6 * b + i) (by omega) (by unfold regA; omega) (by unfold frYa; omega), h3 12 (6 * b + i) (by omega) (by unfold regA; omega) (by unfold frYa; omega)]
    exact b3 i hi
  · rw [h1 _ (by omega) (by omega)]; exact c1
  · rw [h3 _ _ (by omega) (by unfold regA; omega) (by unfold frYa; omega)]; exact c2
  · have jn : ∀ k, k < nr → ∀ a c, Jn (gA MX' (q + 6)) (gA MX' (q + 7)) k a c ↔ Jn (gA MX (q + 6)) (gA MX (q + 7)) k a c := fun k hk a c => by
      unfold Jn
      rw [h2 (q + 6) k (by omega) (by omega) (by unfold frX; omega), h2 (q + 7) k (by omega) (by omega) (by unfold frX; omega)]
    refine ⟨c3.1, fun k hk => ?_, fun a c ha hc => ?_⟩
    · rw [h2 (q + 6) k (by omega) (by omega) (by unfold frX; omega), h2 (q + 7) k (by omega) (by omega) (by unfold frX; omega), h2 (q + 8) k (by omega) (by omega) (by unfold frX; omega)]
      exact c3.2.1 k hk
    · dsimp only
      rw [h3 8 (25 * b + (5 * a + c)) (by omega) (by unfold regA; omega) (by unfold frYa; omega)]
      rcases c3.2.2 a c ha hc with ⟨g1, g2⟩ | ⟨k, g1, g2, g3⟩
      · exact Or.inl ⟨g1, fun k hk g => g2 k hk ((jn k hk a c).mp g)⟩
      · exact Or.inr ⟨k, g1, (jn k g1 a c).mpr g2, by rw [h2 (q + 8) k (by omega) (by omega) (by unfold frX; omega)]; exact g3⟩
  · rw [h1 _ (by omega) (by omega)]; exact p2
  · rw [h3 _ _ (by omega) (by unfold regA; omega) (by unfold frYa; omega)]; exact p3
  · unfold FmR xlist at d1 ⊢
    rw [h1 _ (by omega) (by omega), h3 14 _ (by omega) (by unfold regA; omega) (by unfold frYa; omega), h3 15 _ (by omega) (by unfold regA; omega) (by unfold frYa; omega)]
    rcases d1 with d1 | ⟨c0, δ, e1, e2, e3, e4, e5, e6, e7, e8⟩
    · exact Or.inl d1
    · refine Or.inr ⟨c0, δ, e1, e2, ⟨e3.1, fun i hi => ?_⟩, e4, e5, fun i hi => ?_, e7, e8⟩
      · rw [h2 _ _ (by omega) (by omega) (by unfold frX; omega)]
        exact e3.2 i hi
      · rw [h3 16 _ (by omega) (by unfold regA; omega) (by unfold frYa; omega), h3 17 _ (by omega) (by unfold regA; omega) (by unfold frYa; omega)]
        exact e6 i hi
  · unfold FmR xlist at d2 ⊢
    rw [h1 _ (by omega) (by omega), h3 14 _ (by omega) (by unfold regA; omega) (by unfold frYa; omega), h3 15 _ (by omega) (by unfold regA; omega) (by unfold frYa; omega)]
    rcases d2 with d1 | ⟨c0, δ, e1, e2, e3, e4, e5, e6, e7, e8⟩
    · exact Or.inl d1
    · refine Or.inr ⟨c0, δ, e1, e2, ⟨e3.1, fun i hi => ?_⟩, e4, e5, fun i hi => ?_, e7, e8⟩
      · rw [h2 _ _ (by omega) (by omega) (by unfold frX; omega)]
        exact e3.2 i hi
      · rw [h3 16 _ (by omega) (by unfold regA; omega) (by unfold frYa; omega), h3 17 _ (by omega) (by unfold regA; omega) (by unfold frYa; omega)]
        exact e6 i hi
theorem TownR.cong {q b nt nc nd nr C : Nat} {MX MY MX' MY' : Mem} (h : TownR q b nt nc nd nr C MX MY) (h1 : ∀ j, 128 * q < j → j < 128 * q + 2048 → gI MX' j = gI MX j) (h2 : ∀ a, q ≤ a → a < q + 16 → gA MX' a = gA MX a) (h3 : ∀ a i, ¬ (21 ≤ a) → regA b a i → gA MY' a i = gA MY a i) (h4 : ∀ a i, regB b a i → gB MY' a i = gB MY a i) : TownR q b nt nc nd nr C MX' MY' :=
  h.fine h1 (fun a i g1 g2 _ => by rw [h2 a g1 g2]) (fun a i g1 g2 _ => h3 a i g1 g2) (fun a i g1 _ => h4 a i g1)
/-- steps of the token leave a town as it is -/
theorem TownR.tok {q b nt nc nd nr C : Nat} {MX MY MX' MY' : Mem} (h : TownR q b nt nc nd nr C MX MY) (hq : q = 31 ∨ q = 47) (hx : FI 386 392 MX MX') (hy : FrY MY MY') : TownR q b nt nc nd nr C MX' MY' :=
  h.cong (fun j h1 _ => hx.2 j (by omega)) (fun a _ _ => by rw [hx.A]) (fun a i _ _ => by rw [hy.2.1 a id]) (fun a i _ => by rw [hy.2.2.2.2 a id])
/-- reading into one town leaves the other as it is -/
theorem TownR.other {q b q' b' nt nc nd nr C : Nat} {MX MY MX' MY' : Mem} (h : TownR q b nt nc nd nr C MX MY) (hq : (q = 31 ∧ q' = 47) ∨ (q = 47 ∧ q' = 31)) (hb : (b = 0 ∧ b' = 1) ∨ (b = 1 ∧ b' = 0)) (hx : FX2 q' MX MX') (hy : FY2 b' MY MY') : TownR q b nt nc nd nr C MX' MY' :=
  h.cong (fun j h1 h2 => hx.1 j (by unfold rgX; omega)) (fun a h1 h2 => hx.2.1 a (by omega)) (fun a i h1 h2 => hy.2.1 a i (by unfold regA at h2 ⊢; omega)) (fun a i h2 => hy.2.2.2 a i (by unfold regB at h2 ⊢; omega))
theorem Flt.cong {MX MY MX' MY' : Mem} (h : Flt MX MY) (h1 : gI MX' 391 = gI MX 391) (h2 : gI MX' 392 = gI MX 392) (h3 : gI MY' 8 = gI MY 8) (h4 : gI MY' 9 = gI MY 9) : Flt MX' MY' := by
  unfold Flt at h ⊢
  rw [h1, h2, h3, h4]
  exact h
theorem At.fr {q b : Nat} {MX MY MX' MY' : Mem} (h : At q b MX MY) (hx : FX2 q MX MX') (hy : FY2 b MY MY') : At q b MX' MY' := ⟨(hx.2.2 130 (by decide)).trans h.1, h.2.1, (hy.1 34 (by unfold regI; omega)).trans h.2.2.1, h.2.2.2⟩
end
section
/-! STATEMENTS: thing, corner -/
/-- the state of reading a town -/
def Rd (L s q b nt nc nd nr C : Nat) (MX MY : Mem) : Prop := PR L s MX MY ∧ At q b MX MY ∧ TownR q b nt nc nd nr C MX MY ∧ gI MY 33 = nI C ∧ C ≤ s
def StO (L s q b : Nat) (MX MY : Mem) (rx : Option (Int32 × Mem)) (ry : Option Mem) : Prop :=
  (∃ MX' MY' s' nt nc nd nr C, rx = some (1, MX') ∧ ry = some MY' ∧ s < s' ∧ Rd L s' q b nt nc nd nr C MX' MY' ∧ FX2 q MX MX' ∧ FY2 b MY MY') ∨
  (∃ MX' MY', rx = some (0, MX') ∧ ry = some MY' ∧ Flt MX' MY' ∧ FX2 q MX MX' ∧ FY2 b MY MY')
/-- a faulty reader goes on and does no harm -/
def FT (b : Nat) (M : Mem) (o : Option Mem) : Prop := ∃ M', o = some M' ∧ gI M' 8 = gI M 8 ∧ gI M' 9 = gI M 9 ∧ FY2 b M M'
theorem FT.stO {L s q b : Nat} {MX MY MX' M : Mem} {rx : Option (Int32 × Mem)} {ry : Option Mem} (hf : Flt MX' M) (hx : rx = some (0, MX')) (h : FT b M ry) (fx : FX2 q MX MX') (fy : FY2 b MY M) : StO L s q b MX MY rx ry := by
  obtain ⟨M', e, h8, h9, g⟩ := h
  exact Or.inr ⟨MX', M', hx, e, hf.cong rfl rfl h8 h9, fx, fy.tr g⟩
theorem TownR.bumpT {q b nt nc nd nr C v w v2 v3 : Nat} {MX MY : Mem} (h : TownR q b nt nc nd nr C MX MY) (ht : nt < 6) (hw : WR v w) (x1 : gA MX (q + 1) nt = nI v) (y1 : gB MY 18 (6 * b + nt) = lN w) (x2 : gA MX (q + 2) nt = nI v2) (y2 : gA MY 3 (6 * b + nt) = nI v2) (h2 : v2 ≤ 99) (x3 : gA MX (q + 3) nt = nI v3) (y3 : gA MY 4 (6 * b + nt) = nI v3) (h3 : 1 ≤ v3 ∧ v3 ≤ 99) : TownR q b (nt + 1) nc nd nr C (sI MX (128 * q + 1) (nI (nt + 1))) (sA MY 2 b (nI (nt + 1))) := by
  obtain ⟨⟨⟨a1, a2, a3⟩, ⟨a4, a5, a6⟩, ⟨a7, a8, a9⟩⟩, b1, b2, b3, ⟨c1, c2, c3⟩, ⟨p, p1, p2, p3⟩, d1, d2, d3⟩ := h
  refine ⟨⟨⟨gI_at, ?_, ⟨by omega, fun i hi => ?_⟩⟩, ⟨?_, a5, a6⟩, ⟨?_, a8, a9⟩⟩, fun i hi => ?_, fun i hi => ?_, b3, ⟨?_, c2, c3⟩, ⟨p, p1, ?_, p3⟩, ?_, ?_, d3⟩
  · rw [gA_sA, if_pos rfl, if_pos rfl]
  · by_cases e : i = nt
    · subst e; exact ⟨v, w, hw, x1, y1⟩
    · exact a3.2 i (by omega)
  · rw [gI_ne (by omega)]; exact a4
  · rw [gI_ne (by omega)]; exact a7
  · by_cases e : i = nt
    · subst e; exact ⟨x2.trans y2.symm, ⟨v2, h2, x2⟩, x3.trans y3.symm, v3, h3.1, h3.2, x3⟩
    · exact b1 i (by omega)
  · obtain ⟨g1, g2⟩ := b2 i hi
    refine ⟨g1, ?_⟩
    rcases g2 with g2 | ⟨t, g2, g3⟩
    · exact Or.inl g2
    · exact Or.inr ⟨t, by omega, g3⟩
  · rw [gI_ne (by omega)]; exact c1
  · rw [gI_ne (by omega)]; exact p2
  · unfold FmR xlist at d1 ⊢
    rw [gI_ne (by omega)]
    exact d1
  · unfold FmR xlist at d2 ⊢
    rw [gI_ne (by omega)]
    exact d2
def yT4 (n0 : Nat) (k : Int32) (z91 : Int32 × Mem) : Option Mem :=
  if oob k 12 then none else
  bnd (sA z91.2 4 (Int32.toNatClampNeg k) z91.1) fun M94 =>
  if (gI M94 8) = 0 then
    if oob (gI M94 34) 2 then none else
    if oob (gI M94 34) 2 then none else
    some (sA M94 2 (Int32.toNatClampNeg (gI M94 34)) ((gA M94 2 (Int32.toNatClampNeg (gI M94 34))) + (1 : Int32)))
  else
    some M94
def yT3 (n0 : Nat) (k : Int32) (z71 : Int32 × Mem) : Option Mem :=
  if oob k 12 then none else
  bnd (sA z71.2 3 (Int32.toNatClampNeg k) z71.1) fun M74 =>
  (fX12_must_ n0 (465491424371 : Int64) M74).bind fun z79 =>
  (fX12_number n0 (1 : Int32) (99 : Int32) z79).bind (yT4 n0 k)
def yT1 (n0 : Nat) (k : Int32) (z51 : Int64 × Mem) : Option Mem :=
  if oob k 12 then none else
  bnd (sB z51.2 18 (Int32.toNatClampNeg k) z51.1) fun M54 =>
  (fX12_must_ n0 (512802514792 : Int64) M54).bind fun z59 =>
  (fX12_number n0 (0 : Int32) (99 : Int32) z59).bind (yT3 n0 k)
theorem thg_eq {n0 : Nat} {u1 : Int32} {M : Mem} : fX12_thinging_20 n0 u1 M = (fX12_counts n0 u1 M).bind fun z20 => if z20.1 = 0 then some z20.2 else if oob (gI z20.2 34) 2 then none else bnd (((6 : Int32) * (gI z20.2 34)) + (gA z20.2 2 (Int32.toNatClampNeg (gI z20.2 34)))) fun k => (fX12_fresh n0 z20.2).bind (yT1 n0 k) := rfl
section TH
variable {n0 b k : Nat} {M : Mem} (hk : 6 * b ≤ k ∧ k < 6 * b + 6) (hb : b ≤ 1)
theorem yT4F {u : Int32} (hk : 6 * b ≤ k ∧ k < 6 * b + 6) (hb : b ≤ 1) (h : ¬ gI M 8 ≤ 0) : FT b M (yT4 n0 (nI k) (u, M)) := by
  have hc : (nI k).toNatClampNeg = k := nI_clamp (by omega)
  refine ⟨sA M 4 k u, ?_, rfl, rfl, FY2.r.a (by unfold regA; omega)⟩
  unfold yT4
  simp only [hc]
  exact eq_f (nI_in (by omega) (by decide)) (eq_n (eq_f (pos_ne h) rfl))
theorem yT3F {u : Int32} (hk : 6 * b ≤ k ∧ k < 6 * b + 6) (hb : b ≤ 1) (h : ¬ gI M 8 ≤ 0) : FT b M (yT3 n0 (nI k) (u, M)) := by
  have hc : (nI k).toNatClampNeg = k := nI_clamp (by omega)
  have h' : ¬ gI (sA M 3 k u) 8 ≤ 0 := h
  obtain ⟨M', e, a1, a2, a3⟩ := yT4F (n0 := n0) (u := 0) hk hb h'
  refine ⟨M', ?_, a1, a2, (FY2.r.a (by unfold regA; omega)).tr a3⟩
  unfold yT3
  simp only [hc]
  exact eq_f (nI_in (by omega) (by decide)) (eq_n (eq_b (ymustF h') (eq_b (ynumF h') e)))
theorem yT1F {u : Int64} (hk : 6 * b ≤ k ∧ k < 6 * b + 6) (hb : b ≤ 1) (h : ¬ gI M 8 ≤ 0) : FT b M (yT1 n0 (nI k) (u, M)) := by
  have hc : (nI k).toNatClampNeg = k := nI_clamp (by omega)
  have h' : ¬ gI (sB M 18 k u) 8 ≤ 0 := h
  obtain ⟨M', e, a1, a2, a3⟩ := yT3F (n0 := n0) (u := 0) hk hb h'
  refine ⟨M', ?_, a1, a2, (FY2.r.bb (by unfold regB; omega)).tr a3⟩
  unfold yT1
  simp only [hc]
  exact eq_f (nI_in (by omega) (by decide)) (eq_n (eq_b (ymustF h') (eq_b (ynumF h') e)))
end TH
theorem xaddT {n0 q nt : Nat} {x1 x2 x3 : Int32} {M : Mem} (h : gI M (128 * q + 1) = nI nt) (ht : nt < 6) : fX9_addThing n0 q x1 x2 x3 M = some (sI (sA (sA (sA M (q + 1) nt x1) (q + 2) nt x2) (q + 3) nt x3) (128 * q + 1) (nI (nt + 1))) := by
  have o : ¬ oob (gI M (128 * q + 1)) 6 := by rw [h]; exact nI_in ht (by decide)
  unfold fX9_addThing
  refine eq_f (by rw [h]; exact nI_ge (b := 6) ht (by decide)) (eq_f o (eq_n (eq_f o (eq_n (eq_f o (eq_n ?_))))))
  simp only [gI_sA, h, nI_clamp (show nt < 2 ^ 31 by omega), nI_1]
/-- PR does not see what is written elsewhere -/
theorem PR.w {L s : Nat} {MX MY MY' : Mem} (h : PR L s MX MY) (h1 : gI MY' = gI MY) (h2 : gL MY' = gL MY) (h3 : gA MY' 1 = gA MY 1) : PR L s MX MY' := h.cong (fun _ _ _ => rfl) rfl rfl rfl (fun j _ => by rw [h1]) (by rw [h2]) h3
theorem thingS {n0 L s q b nt nc nd nr C : Nat} {MX MY : Mem} (hn : 1601 ≤ n0) (h : Rd L s q b nt nc nd nr C MX MY) (hk : gI MX 386 = 260) : StO L s q b MX MY (fX4_readStatement_98 n0 (bI (¬ nt = 6)) MX) (fX12_thinging_20 n0 (bI (nt = 6)) MY) := by
  obtain ⟨hP, hA, hT, hC, hCs⟩ := h
  obtain ⟨f1, f2⟩ := fstP (n0 := n0) (full := nt = 6) hn hP (by rw [hk]; decide) (by rw [hk]; decide)
  rw [thg_eq]
  by_cases hf : nt = 6
  · obtain ⟨e1, e2⟩ := f1 hf
    refine Or.inr ⟨sI (sI MX 391 6) 392 (nI s), sI (sI MY 8 6) 9 (nI s), ?_, eq_b e2 (eq_t rfl rfl), Flt.mk (k := 6) (by decide) (by decide), FIf.q, FYf.b⟩
    unfold fX4_readStatement_98
    exact eq_b e1 (eq_t rfl rfl)
  obtain ⟨MX1, MY1, s1, ex1, ey1, hs1, hP1, fx1, fy1⟩ := f2 hf
  have hA1 : At q b MX1 MY1 := hA.fr fx1.q fy1.b
  have hT1 : TownR q b nt nc nd nr C MX1 MY1 := hT.tok hA.2.1 fx1 fy1
  have hb := hA.2.2.2
  have ht : nt < 6 := by have := hT.1.1.2.2.1; omega
  have hkk : 6 * b ≤ 6 * b + nt ∧ 6 * b + nt < 6 * b + 6 := by omega
  have hcl : (nI (6 * b + nt)).toNatClampNeg = 6 * b + nt := nI_clamp (by omega)
  have ekk : ((6 : Int32) * (gI MY1 34)) + (gA MY1 2 (Int32.toNatClampNeg (gI MY1 34))) = nI (6 * b + nt) := by rw [hA1.2.2.1, nI_clamp (by omega), hT1.1.1.2.1, n6]
  have o34 : ¬ oob (gI MY1 34) 2 := by rw [hA1.2.2.1]; exact nI_in (by omega) (by decide)
  have okk : ¬ oob (nI (6 * b + nt)) 12 := nI_in (by omega) (by decide)
  unfold fX4_readStatement_98 fX4_readThing
  rcases newP hn hP1 hA1 hT1.1 with ⟨v, w, MX2, MY2, s2, hw, ex2, ey2, hs2, hP2, fx2, fy2⟩ | ⟨MX2, MY2, u, ex2, ey2, hF, fx2, fy2⟩
  rotate_left
  · exact FT.stO hF (eq_b ex1 (eq_f i10 (eq_b (eq_b ex2 (eq_t rfl rfl)) (eq_t rfl rfl)))) (by
      obtain ⟨M', e, r⟩ := yT1F (n0 := n0) (u := u) hkk hb hF.pos
      exact ⟨M', eq_b ey1 (eq_f i10 (eq_f o34 (eq_n (eq_b ey2 (by rw [ekk]; exact e))))), r⟩) (fx1.q.tr fx2.q) (fy1.b.tr fy2.b)
  have nv : ¬ nI v = -1 := nI_m1 hw.v_lt
  have hP2' : PR L s2 MX2 (sB MY2 18 (6 * b + nt) (lN w)) := hP2.w rfl rfl rfl
  have fyA : FY2 b MY1 (sB MY2 18 (6 * b + nt) (lN w)) := fy2.b.bb (by unfold regB; omega)
  rcases skW (i := 1) (y := 512802514792) (kk := 261) hn (by decide) (by decide) (by decide) hP2' with ⟨MX3, MY3, s3, ex3, ey3, hs3, hP3, fx3, fy3⟩ | ⟨MX3, MY3, ex3, ey3, hF, fx3, fy3⟩
  rotate_left
  · exact FT.stO hF (eq_b ex1 (eq_f i10 (eq_b (eq_b ex2 (eq_f nv (eq_b ex3 (eq_t rfl rfl)))) (eq_t rfl rfl)))) (by
      obtain ⟨M', e, r⟩ := yT3F (n0 := n0) (u := 0) hkk hb hF.pos
      refine ⟨M', eq_b ey1 (eq_f i10 (eq_f o34 (eq_n (eq_b ey2 ?_)))), r⟩
      rw [ekk]
      unfold yT1
      simp only [hcl]
      exact eq_f okk (eq_n (eq_b ey3 (eq_b (ynumF hF.pos) e)))) ((fx1.q.tr fx2.q).tr fx3.q) ((fy1.b.tr fyA).tr fy3.b)
  rcases numP (lo := 0) (hi := 99) hn hP3 with ⟨v2, MX4, MY4, s4, hv2, lo2, hi2, ex4, ey4, hs4, hP4, fx4, fy4⟩ | ⟨MX4, MY4, u, ex4, ey4, hF, fx4, fy4⟩
  rotate_left
  · exact FT.stO hF (eq_b ex1 (eq_f i10 (eq_b (eq_b ex2 (eq_f nv (eq_b ex3 (eq_f i10 (eq_b ex4 (eq_t rfl rfl)))))) (eq_t rfl rfl)))) (by
      obtain ⟨M', e, r⟩ := yT3F (n0 := n0) (u := u) hkk hb hF.pos
      refine ⟨M', eq_b ey1 (eq_f i10 (eq_f o34 (eq_n (eq_b ey2 ?_)))), r⟩
      rw [ekk]
      unfold yT1
      simp only [hcl]
      exact eq_f okk (eq_n (eq_b ey3 (eq_b ey4 e)))) (((fx1.q.tr fx2.q).tr fx3.q).tr fx4.q) (((fy1.b.tr fyA).tr fy3.b).tr fy4.b)
  have nv2 : ¬ nI v2 = -1 := nI_m1 (by omega)
  have hP4' : PR L s4 MX4 (sA MY4 3 (6 * b + nt) (nI v2)) := hP4.w rfl rfl (gA_sA_ne (by decide))
  have fyB : FY2 b MY3 (sA MY4 3 (6 * b + nt) (nI v2)) := fy4.b.a (by unfold regA; omega)
  rcases skW (i := 2) (y := 465491424371) (kk := 262) hn (by decide) (by decide) (by decide) hP4' with ⟨MX5, MY5, s5, ex5, ey5, hs5, hP5, fx5, fy5⟩ | ⟨MX5, MY5, ex5, ey5, hF, fx5, fy5⟩
  rotate_left
  · exact FT.stO hF (eq_b ex1 (eq_f i10 (eq_b (eq_b ex2 (eq_f nv (eq_b ex3 (eq_f i10 (eq_b ex4 (eq_f nv2 (eq_b ex5 (eq_t rfl rfl)))))))) (eq_t rfl rfl)))) (by
      obtain ⟨M', e, r⟩ := yT4F (n0 := n0) (u := 0) hkk hb hF.pos
      refine ⟨M', eq_b ey1 (eq_f i10 (eq_f o34 (eq_n (eq_b ey2 ?_)))), r⟩
      rw [ekk]
      unfold yT1 yT3
      simp only [hcl]
      exact eq_f okk (eq_n (eq_b ey3 (eq_b ey4 (eq_f okk (eq_n (eq_b ey5 (eq_b (ynumF hF.pos) e)))))))) ((((fx1.q.tr fx2.q).tr fx3.q).tr fx4.q).tr fx5.q) ((((fy1.b.tr fyA).tr fy3.b).tr fyB).tr fy5.b)
  rcases numP (lo := 1) (hi := 99) hn hP5 with ⟨v3, MX6, MY6, s6, hv3, lo3, hi3, ex6, ey6, hs6, hP6, fx6, fy6⟩ | ⟨MX6, MY6, u, ex6, ey6, hF, fx6, fy6⟩
  rotate_left
  · exact FT.stO hF (eq_b ex1 (eq_f i10 (eq_b (eq_b ex2 (eq_f nv (eq_b ex3 (eq_f i10 (eq_b ex4 (eq_f nv2 (eq_b ex5 (eq_f i10 (eq_b ex6 (eq_t rfl rfl)))))))))) (eq_t rfl rfl)))) (by
      obtain ⟨M', e, r⟩ := yT4F (n0 := n0) (u := u) hkk hb hF.pos
      refine ⟨M', eq_b ey1 (eq_f i10 (eq_f o34 (eq_n (eq_b ey2 ?_)))), r⟩
      rw [ekk]
      unfold yT1 yT3
      simp only [hcl]
      exact eq_f okk (eq_n (eq_b ey3 (eq_b ey4 (eq_f okk (eq_n (eq_b ey5 (eq_b ey6 e)))))))) (((((fx1.q.tr fx2.q).tr fx3.q).tr fx4.q).tr fx5.q).tr fx6.q) (((((fy1.b.tr fyA).tr fy3.b).tr fyB).tr fy5.b).tr fy6.b)
  -- the statement is read
  have nv3 : ¬ nI v3 = -1 := nI_m1 (by omega)
  have fxT : FI 386 392 MX1 MX6 := (((fx2.tr fx3).tr fx4).tr fx5).tr fx6
  have q7 := hA.2.1
  have x130 : gR MX6 130 = q := by rw [fxT.R]; exact hA1.1
  have xcnt : gI MX6 (128 * q + 1) = nI nt := (fxT.2 _ (by omega)).trans hT1.1.1.1
  have fy56 : ∀ a i, gA MY6 a i = gA (sA MY4 3 (6 * b + nt) (nI v2)) a i := fun a i => by rw [fy6.2.1 a id, fy5.2.1 a id]
  have fy34 : ∀ a i, gA MY4 a i = gA MY1 a i := fun a i => by
    rw [fy4.2.1 a id, fy3.2.1 a id]
    show gA MY2 a i = _
    rw [fy2.2.1 a id]
  have gb6 : ∀ a i, gB MY6 a i = gB (sB MY2 18 (6 * b + nt) (lN w)) a i := fun a i => by
    rw [fy6.2.2.2.2 a id, fy5.2.2.2.2 a id]
    show gB MY4 a i = _
    rw [fy4.2.2.2.2 a id, fy3.2.2.2.2 a id]
  have y34 : gI MY6 34 = nI b := by
    rw [fy6.1 34 (by omega), fy5.1 34 (by omega)]
    show gI MY4 34 = _
    rw [fy4.1 34 (by omega), fy3.1 34 (by omega)]
    show gI MY2 34 = _
    rw [fy2.1 34 (by omega)]
    exact hA1.2.2.1
  have y33 : gI MY6 33 = nI C := by
    rw [fy6.1 33 (by omega), fy5.1 33 (by omega)]
    show gI MY4 33 = _
    rw [fy4.1 33 (by omega), fy3.1 33 (by omega)]
    show gI MY2 33 = _
    rw [fy2.1 33 (by omega), fy1.1 33 (by omega)]
    exact hC
  have y2 : gA (sA MY6 4 (6 * b + nt) (nI v3)) 2 b = nI nt := by
    rw [gA_sA_ne (by decide), fy56, gA_sA_ne (by decide), fy34]
    exact hT1.1.1.2.1
  have hT6 : TownR q b nt nc nd nr C (sA (sA (sA MX6 (q + 1) nt (nI v)) (q + 2) nt (nI v2)) (q + 3) nt (nI v3)) (sA MY6 4 (6 * b + nt) (nI v3)) := by
    refine hT1.fine (fun j h1 h2 => fxT.2 j (by omega)) (fun a i h1 h2 h3 => ?_) (fun a i h1 h2 h3 => ?_) (fun a i h2 h3 => ?_)
    · unfold frX at h3
      rw [gA_sA]
      by_cases e3 : a = q + 3
      · rw [if_pos e3, if_neg (by omega), gA_sA_ne (by omega), gA_sA_ne (by omega), fxT.A, e3]
      · rw [if_neg e3, gA_sA]
        by_cases e2 : a = q + 2
        · rw [if_pos e2, if_neg (by omega), gA_sA_ne (by omega), fxT.A, e2]
        · rw [if_neg e2, gA_sA]
          by_cases e1 : a = q + 1
          · rw [if_pos e1, if_neg (by omega), fxT.A, e1]
          · rw [if_neg e1, fxT.A]
    · unfold frYa at h3
      rw [gA_sA]
      by_cases e4 : a = 4
      · rw [if_pos e4, if_neg (by omega), fy56, gA_sA_ne (by decide), fy34, e4]
      · rw [if_neg e4, fy56, gA_sA]
        by_cases e3 : a = 3
        · rw [if_pos e3, if_neg (by omega), fy34, e3]
        · rw [if_neg e3, fy34]
    · unfold frYb at h3
      show gB MY6 a i = _
      rw [gb6, gB_sB]
      by_cases e : a = 18
      · rw [if_pos e, if_neg (by omega), fy2.2.2.2.2 18 id, e]
      · rw [if_neg e, fy2.2.2.2.2 a id]
  have hT7 := hT6.bumpT ht hw (by rw [gA_sA_ne (by omega), gA_sA_ne (by omega), gA_sA, if_pos rfl, if_pos rfl]) (by
    show gB MY6 18 _ = _
    rw [gb6, gB_sB, if_pos rfl, if_pos rfl]) (by rw [gA_sA_ne (by omega), gA_sA, if_pos rfl, if_pos rfl]) (by rw [gA_sA_ne (by decide), fy56, gA_sA, if_pos rfl, if_pos rfl]) ((nI_leI (a := v2) (b := 99) (by omega) (by decide)).mp hi2) (by rw [gA_sA, if_pos rfl, if_pos rfl]) (by rw [gA_sA, if_pos rfl, if_pos rfl]) ⟨(nI_leI (a := 1) (b := v3) (by decide) (by omega)).mp lo3, (nI_leI (a := v3) (b := 99) (by omega) (by decide)).mp hi3⟩
  have fyE : FY2 b MY (sA (sA MY6 4 (6 * b + nt) (nI v3)) 2 b (nI (nt + 1))) := (((((((fy1.b.tr fyA).tr fy3.b).tr fyB).tr fy5.b).tr fy6.b).a (by unfold regA; omega)).a (by unfold regA; omega))
  have fxE : FX2 q MX (sI (sA (sA (sA MX6 (q + 1) nt (nI v)) (q + 2) nt (nI v2)) (q + 3) nt (nI v3)) (128 * q + 1) (nI (nt + 1))) := (((fx1.tr fxT).q.a (by omega)).a (by omega)).a (by omega) |>.i (by unfold rgX; omega)
  refine Or.inl ⟨_, _, s6, nt + 1, nc, nd, nr, C, ?_, ?_, by omega, ⟨?_, hA.fr fxE fyE, hT7, ?_, by omega⟩, fxE, fyE⟩
  · refine eq_b ex1 (eq_f i10 (eq_b (eq_b ex2 (eq_f nv (eq_b ex3 (eq_f i10 (eq_b ex4 (eq_f nv2 (eq_b ex5 (eq_f i10 (eq_b ex6 (eq_f nv3 (eq_b ?_ rfl)))))))))) ) (eq_f i10 rfl)))
    show fX9_addThing n0 (gR MX6 130) _ _ _ MX6 = _
    rw [x130]
    exact xaddT xcnt ht
  · refine eq_b ey1 (eq_f i10 (eq_f o34 (eq_n (eq_b ey2 ?_))))
    rw [ekk]
    unfold yT1 yT3 yT4
    simp only [hcl]
    have o34' : ¬ oob (gI MY6 34) 2 := by rw [y34]; exact nI_in (by omega) (by decide)
    refine eq_f okk (eq_n (eq_b ey3 (eq_b ey4 (eq_f okk (eq_n (eq_b ey5 (eq_b ey6 (eq_f okk (eq_n (eq_t hP6.f8 (eq_f o34' (eq_f o34' ?_))))))))))))
    have c34 : (gI (sA MY6 4 (6 * b + nt) (nI v3)) 34).toNatClampNeg = b := by
      show (gI MY6 34).toNatClampNeg = b
      rw [y34, nI_clamp (by omega)]
    show some (sA (sA MY6 4 (6 * b + nt) (nI v3)) 2 (gI (sA MY6 4 (6 * b + nt) (nI v3)) 34).toNatClampNeg (gA (sA MY6 4 (6 * b + nt) (nI v3)) 2 (gI (sA MY6 4 (6 * b + nt) (nI v3)) 34).toNatClampNeg + 1)) = _
    rw [c34, y2, nI_1]
  · refine hP6.cong (fun j h1 h2 => ?_) ?_ ?_ ?_ (fun j _ => rfl) rfl ?_
    · rw [gI_ne (by omega)]; rfl
    · rw [gI_ne (by omega)]; rfl
    · show gA (sA (sA (sA MX6 (q + 1) nt (nI v)) (q + 2) nt (nI v2)) (q + 3) nt (nI v3)) 4 = _
      rw [gA_sA_ne (by omega), gA_sA_ne (by omega), gA_sA_ne (by omega)]
    · show gA (sA (sA (sA MX6 (q + 1) nt (nI v)) (q + 2) nt (nI v2)) (q + 3) nt (nI v3)) 6 = _
      rw [gA_sA_ne (by omega), gA_sA_ne (by omega), gA_sA_ne (by omega)]
    · rw [gA_sA_ne (by decide), gA_sA_ne (by decide)]
  · show gI MY6 33 = _
    exact y33
end
section
/-! STATEMENTS: corner, pass -/
theorem TownR.bumpC {q b nt nc nd nr C v w : Nat} {MX MY : Mem} (h : TownR q b nt nc nd nr C MX MY) (ht : nc < 5) (hw : WR v w) (x1 : gA MX (q + 4) nc = nI v) (y1 : gB MY 19 (5 * b + nc) = lN w) (x2 : gA MX (q + 5) nc = -1) (y2 : gA MY 6 (5 * b + nc) = -1) : TownR q b nt (nc + 1) nd nr C (sI MX (128 * q + 5) (nI (nc + 1))) (sA MY 5 b (nI (nc + 1))) := by
  obtain ⟨⟨⟨a1, a2, a3⟩, ⟨a4, a5, a6⟩, ⟨a7, a8, a9⟩⟩, b1, b2, b3, ⟨c1, c2, c3⟩, ⟨p, p1, p2, p3⟩, d1, d2, d3⟩ := h
  refine ⟨⟨⟨?_, a2, a3⟩, ⟨gI_at, ?_, ⟨by omega, fun i hi => ?_⟩⟩, ⟨?_, a8, a9⟩⟩, b1, fun i hi => ?_, fun i hi => ?_, ⟨?_, c2, ⟨c3.1, fun k hk => ?_, c3.2.2⟩⟩, ⟨p, p1, ?_, p3⟩, ?_, ?_, d3⟩
  · rw [gI_ne (by omega)]; exact a1
  · rw [gA_sA, if_pos rfl, if_pos rfl]
  · by_cases e : i = nc
    · subst e; exact ⟨v, w, hw, x1, y1⟩
    · exact a6.2 i (by omega)
  · rw [gI_ne (by omega)]; exact a7
  · by_cases e : i = nc
    · subst e; exact ⟨x2.trans y2.symm, Or.inl x2⟩
    · exact b2 i (by omega)
  · obtain ⟨g1, ⟨k, g2, g3⟩, g4⟩ := b3 i hi
    exact ⟨g1, ⟨k, by omega, g3⟩, g4⟩
  · rw [gI_ne (by omega)]; exact c1
  · obtain ⟨a, c, v, g1, g2, g3⟩ := c3.2.1 k hk
    exact ⟨a, c, v, by omega, by omega, g3⟩
  · rw [gI_ne (by omega)]; exact p2
  · unfold FmR xlist at d1 ⊢
    rw [gI_ne (by omega)]
    exact d1
  · unfold FmR xlist at d2 ⊢
    rw [gI_ne (by omega)]
    exact d2
def yC1 (n0 : Nat) (k : Int32) (z47 : Int64 × Mem) : Option Mem :=
    if oob k 10 then none else
    bnd (sB z47.2 19 (Int32.toNatClampNeg k) z47.1) fun M50 =>
    if oob (gI M50 34) 2 then none else
    if oob (((5 : Int32) * (gI M50 34)) + (gA M50 5 (Int32.toNatClampNeg (gI M50 34)))) 10 then none else
    bnd (sA M50 6 (Int32.toNatClampNeg (((5 : Int32) * (gI M50 34)) + (gA M50 5 (Int32.toNatClampNeg (gI M50 34))))) (-1 : Int32)) fun M72 =>
    if (gI M72 8) = 0 then
      if oob (gI M72 34) 2 then none else
      if oob (gI M72 34) 2 then none else
      some (sA M72 5 (Int32.toNatClampNeg (gI M72 34)) ((gA M72 5 (Int32.toNatClampNeg (gI M72 34))) + (1 : Int32)))
    else
      some M72
theorem cor_eq {n0 : Nat} {u1 : Int32} {M : Mem} : fX12_cornering_19 n0 u1 M = (fX12_counts n0 u1 M).bind fun z19 => if z19.1 = 0 then some z19.2 else if oob (gI z19.2 34) 2 then none else (fX12_fresh n0 z19.2).bind (yC1 n0 (((5 : Int32) * (gI z19.2 34)) + (gA z19.2 5 (Int32.toNatClampNeg (gI z19.2 34))))) := rfl
theorem yC1e {n0 b nc : Nat} {u : Int64} {M : Mem} (hb : b ≤ 1) (hc : nc < 5) (h34 : gI M 34 = nI b) (h5 : gA M 5 b = nI nc) :
    (gI M 8 = 0 → yC1 n0 (nI (5 * b + nc)) (u, M) = some (sA (sA (sB M 19 (5 * b + nc) u) 6 (5 * b + nc) (-1)) 5 b (nI (nc + 1)))) ∧ (¬ gI M 8 = 0 → yC1 n0 (nI (5 * b + nc)) (u, M) = some (sA (sB M 19 (5 * b + nc) u) 6 (5 * b + nc) (-1))) := by
  have hcl : (nI (5 * b + nc)).toNatClampNeg = 5 * b + nc := nI_clamp (by omega)
  have hcb : (nI b).toNatClampNeg = b := nI_clamp (by omega)
  have o1 : ¬ oob (nI (5 * b + nc)) 10 := nI_in (by omega) (by decide)
  have o2 : ¬ oob (nI b) 2 := nI_in (by omega) (by decide)
  have e : ∀ v : Int64, (5 : Int32) * gI (sB M 19 (5 * b + nc) v) 34 + gA (sB M 19 (5 * b + nc) v) 5 (Int32.toNatClampNeg (gI (sB M 19 (5 * b + nc) v) 34)) = nI (5 * b + nc) := fun v => by
    show (5 : Int32) * gI M 34 + gA M 5 (Int32.toNatClampNeg (gI M 34)) = _
    rw [h34, hcb, h5, n5]
  constructor
  · intro h8
    unfold yC1
    simp only [hcl]
    refine eq_f o1 (eq_n (eq_f (by show ¬ oob (gI M 34) 2; rw [h34]; exact o2) (eq_f (by rw [e]; exact o1) (eq_n (eq_t h8 (eq_f (by show ¬ oob (gI M 34) 2; rw [h34]; exact o2) (eq_f (by show ¬ oob (gI M 34) 2; rw [h34]; exact o2) ?_)))))))
    rw [e, hcl]
    show some (sA (sA (sB M 19 (5 * b + nc) u) 6 (5 * b + nc) (-1)) 5 (gI M 34).toNatClampNeg (gA (sA (sB M 19 (5 * b + nc) u) 6 (5 * b + nc) (-1)) 5 (gI M 34).toNatClampNeg + 1)) = _
    rw [h34, hcb, gA_sA_ne (by decide)]
    show some (sA _ 5 b (gA M 5 b + 1)) = _
    rw [h5, nI_1]
  · intro h8
    unfold yC1
    simp only [hcl]
    refine eq_f o1 (eq_n (eq_f (by show ¬ oob (gI M 34) 2; rw [h34]; exact o2) (eq_f (by rw [e]; exact o1) (eq_n (eq_f h8 ?_)))))
    rw [e, hcl]
theorem xaddC {n0 q nc : Nat} {x1 : Int32} {M : Mem} (h : gI M (128 * q + 5) = nI nc) (ht : nc < 5) : fX9_addCorner n0 q x1 M = some (sI (sA (sA M (q + 4) nc x1) (q + 5) nc (-1)) (128 * q + 5) (nI (nc + 1))) := by
  have o : ¬ oob (gI M (128 * q + 5)) 5 := by rw [h]; exact nI_in ht (by decide)
  unfold fX9_addCorner
  refine eq_f (by rw [h]; exact nI_ge (b := 5) ht (by decide)) (eq_f o (eq_n (eq_f o (eq_n ?_))))
  simp only [gI_sA, h, nI_clamp (show nc < 2 ^ 31 by omega), nI_1]
theorem cornerS {n0 L s q b nt nc nd nr C : Nat} {MX MY : Mem} (hn : 1601 ≤ n0) (h : Rd L s q b nt nc nd nr C MX MY) (hk : gI MX 386 = 263) : StO L s q b MX MY (fX4_readStatement_134 n0 (bI (¬ nc = 5)) MX) (fX12_cornering_19 n0 (bI (nc = 5)) MY) := by
  obtain ⟨hP, hA, hT, hC, hCs⟩ := h
  obtain ⟨f1, f2⟩ := fstP (n0 := n0) (full := nc = 5) hn hP (by rw [hk]; decide) (by rw [hk]; decide)
  rw [cor_eq]
  by_cases hf : nc = 5
  · obtain ⟨e1, e2⟩ := f1 hf
    refine Or.inr ⟨sI (sI MX 391 6) 392 (nI s), sI (sI MY 8 6) 9 (nI s), ?_, eq_b e2 (eq_t rfl rfl), Flt.mk (k := 6) (by decide) (by decide), FIf.q, FYf.b⟩
    unfold fX4_readStatement_134
    exact eq_b e1 (eq_t rfl rfl)
  obtain ⟨MX1, MY1, s1, ex1, ey1, hs1, hP1, fx1, fy1⟩ := f2 hf
  have hA1 : At q b MX1 MY1 := hA.fr fx1.q fy1.b
  have hT1 : TownR q b nt nc nd nr C MX1 MY1 := hT.tok hA.2.1 fx1 fy1
  have hb := hA.2.2.2
  have ht : nc < 5 := by have := hT.1.2.1.2.2.1; omega
  have ekk : ((5 : Int32) * (gI MY1 34)) + (gA MY1 5 (Int32.toNatClampNeg (gI MY1 34))) = nI (5 * b + nc) := by rw [hA1.2.2.1, nI_clamp (by omega), hT1.1.2.1.2.1, n5]
  have o34 : ¬ oob (gI MY1 34) 2 := by rw [hA1.2.2.1]; exact nI_in (by omega) (by decide)
  unfold fX4_readStatement_134 fX4_readCorner
  rcases newP hn hP1 hA1 hT1.1 with ⟨v, w, MX2, MY2, s2, hw, ex2, ey2, hs2, hP2, fx2, fy2⟩ | ⟨MX2, MY2, u, ex2, ey2, hF, fx2, fy2⟩
  · have nv : ¬ nI v = -1 := nI_m1 hw.v_lt
    have q7 := hA.2.1
    have x130 : gR MX2 130 = q := by rw [fx2.R]; exact hA1.1
    have xcnt : gI MX2 (128 * q + 5) = nI nc := (fx2.2 _ (by omega)).trans hT1.1.2.1.1
    have y34 : gI MY2 34 = nI b := (fy2.1 34 (by omega)).trans hA1.2.2.1
    have y5 : gA MY2 5 b = nI nc := by rw [fy2.2.1 5 id]; exact hT1.1.2.1.2.1
    have hT6 : TownR q b nt nc nd nr C (sA (sA MX2 (q + 4) nc (nI v)) (q + 5) nc (-1)) (sA (sB MY2 19 (5 * b + nc) (lN w)) 6 (5 * b + nc) (-1)) := by
      refine hT1.fine (fun j h1 h2 => fx2.2 j (by omega)) (fun a i h1 h2 h3 => ?_) (fun a i h1 h2 h3 => ?_) (fun a i h2 h3 => ?_)
      · unfold frX at h3
        rw [gA_sA]
        by_cases e3 : a = q + 5
        · rw [if_pos e3, if_neg (by omega), gA_sA_ne (by omega), fx2.A, e3]
        · rw [if_neg e3, gA_sA]
          by_cases e2 : a = q + 4
          · rw [if_pos e2, if_neg (by omega), fx2.A, e2]
          · rw [if_neg e2, fx2.A]
      · unfold frYa at h3
        rw [gA_sA]
        by_cases e4 : a = 6
        · rw [if_pos e4, if_neg (by omega)]
          show gA MY2 6 i = _
          rw [fy2.2.1 6 id, e4]
        · rw [if_neg e4]
          show gA MY2 a i = _
          rw [fy2.2.1 a id]
      · unfold frYb at h3
        show gB (sB MY2 19 (5 * b + nc) (lN w)) a i = _
        rw [gB_sB]
        by_cases e : a = 19
        · rw [if_pos e, if_neg (by omega), fy2.2.2.2.2 19 id, e]
        · rw [if_neg e, fy2.2.2.2.2 a id]
    have hT7 := hT6.bumpC ht hw (by rw [gA_sA_ne (by omega), gA_sA, if_pos rfl, if_pos rfl]) (by
      show gB (sB MY2 19 (5 * b + nc) (lN w)) 19 _ = _
      rw [gB_sB, if_pos rfl, if_pos rfl]) (by rw [gA_sA, if_pos rfl, if_pos rfl]) (by rw [gA_sA, if_pos rfl, if_pos rfl])
    have fyE : FY2 b MY (sA (sA (sB MY2 19 (5 * b + nc) (lN w)) 6 (5 * b + nc) (-1)) 5 b (nI (nc + 1))) := (((fy1.b.tr fy2.b).bb (by unfold regB; omega)).a (by unfold regA; omega)).a (by unfold regA; omega)
    have fxE : FX2 q MX (sI (sA (sA MX2 (q + 4) nc (nI v)) (q + 5) nc (-1)) (128 * q + 5) (nI (nc + 1))) := (((fx1.tr fx2).q.a (by omega)).a (by omega)).i (by unfold rgX; omega)
    refine Or.inl ⟨_, _, s2, nt, nc + 1, nd, nr, C, ?_, ?_, by omega, ⟨?_, hA.fr fxE fyE, hT7, ?_, by omega⟩, fxE, fyE⟩
    · refine eq_b ex1 (eq_f i10 (eq_b (eq_b ex2 (eq_f nv (eq_b ?_ rfl))) (eq_f i10 rfl)))
      show fX9_addCorner n0 (gR MX2 130) _ MX2 = _
      rw [x130]
      exact xaddC xcnt ht
    · refine eq_b ey1 (eq_f i10 (eq_f o34 (eq_b ey2 ?_)))
      rw [ekk]
      exact (yC1e hb ht y34 y5).1 hP2.f8
    · refine hP2.cong (fun j h1 h2 => ?_) ?_ ?_ ?_ (fun j _ => rfl) rfl ?_
      · rw [gI_ne (by omega)]; rfl
      · rw [gI_ne (by omega)]; rfl
      · show gA (sA (sA MX2 (q + 4) nc (nI v)) (q + 5) nc (-1)) 4 = _
        rw [gA_sA_ne (by omega), gA_sA_ne (by omega)]
      · show gA (sA (sA MX2 (q + 4) nc (nI v)) (q + 5) nc (-1)) 6 = _
        rw [gA_sA_ne (by omega), gA_sA_ne (by omega)]
      · rw [gA_sA_ne (by decide), gA_sA_ne (by decide)]
        rfl
    · show gI MY2 33 = _
      rw [fy2.1 33 (by omega), fy1.1 33 (by omega)]
      exact hC
  · refine FT.stO hF (eq_b ex1 (eq_f i10 (eq_b (eq_b ex2 (eq_t rfl rfl)) (eq_t rfl rfl)))) ⟨sA (sB MY2 19 (5 * b + nc) u) 6 (5 * b + nc) (-1), ?_, rfl, rfl, (FY2.r.bb (by unfold regB; omega)).a (by unfold regA; omega)⟩ (fx1.q.tr fx2.q) (fy1.b.tr fy2.b)
    refine eq_b ey1 (eq_f i10 (eq_f o34 (eq_b ey2 ?_)))
    rw [ekk]
    exact (yC1e hb ht ((fy2.1 34 (by omega)).trans hA1.2.2.1) (by rw [fy2.2.1 5 id]; exact hT1.1.2.1.2.1)).2 (pos_ne hF.pos)
/-- the statement pass, as the class's readStatement has it -/
def xPass (n0 : Nat) (M : Mem) : Option (Int32 × Mem) :=
    (fX4_skipFirst n0 (1 : Int32) M).bind fun z346 =>
    if z346.1 = 0 then
      some ((0 : Int32), z346.2)
    else
      (fX4_readPass n0 z346.2).bind fun z353 =>
      if z353.1 = 0 then
        some ((0 : Int32), z353.2)
      else
        some ((1 : Int32), z353.2)
theorem TownR.setP {q b nt nc nd nr C p : Nat} {MX MY : Mem} (h : TownR q b nt nc nd nr C MX MY) (hp : p ≤ 100) : TownR q b nt nc nd nr C (sI MX (128 * q + 16) (nI p)) (sA MY 13 b (nI p)) := by
  obtain ⟨⟨⟨a1, a2, a3⟩, ⟨a4, a5, a6⟩, ⟨a7, a8, a9⟩⟩, b1, b2, b3, ⟨c1, c2, c3⟩, -, d1, d2, d3⟩ := h
  refine ⟨⟨⟨?_, a2, a3⟩, ⟨?_, a5, a6⟩, ⟨?_, a8, a9⟩⟩, b1, b2, b3, ⟨?_, c2, c3⟩, ⟨p, hp, gI_at, ?_⟩, ?_, ?_, d3⟩
  · rw [gI_ne (by omega)]; exact a1
  · rw [gI_ne (by omega)]; exact a4
  · rw [gI_ne (by omega)]; exact a7
  · rw [gI_ne (by omega)]; exact c1
  · rw [gA_sA, if_pos rfl, if_pos rfl]
  · unfold FmR xlist at d1 ⊢
    rw [gI_ne (by omega)]
    exact d1
  · unfold FmR xlist at d2 ⊢
    rw [gI_ne (by omega)]
    exact d2
theorem passS {n0 L s q b nt nc nd nr C : Nat} {MX MY : Mem} (hn : 1601 ≤ n0) (h : Rd L s q b nt nc nd nr C MX MY) (hk : gI MX 386 = 274) : StO L s q b MX MY (xPass n0 MX) (fX12_passing n0 MY) := by
  obtain ⟨hP, hA, hT, hC, hCs⟩ := h
  obtain ⟨-, f2⟩ := fstP (n0 := n0) (full := False) hn hP (by rw [hk]; decide) (by rw [hk]; decide)
  obtain ⟨MX1, MY1, s1, ex1, ey1, hs1, hP1, fx1, fy1⟩ := f2 id
  rw [bI_t (show ¬ False from id)] at ex1
  rw [bI_f (show ¬ False from id)] at ey1
  have q7 := hA.2.1
  have hb := hA.2.2.2
  unfold xPass fX4_readPass fX12_passing
  rcases numP (lo := 0) (hi := 100) hn hP1 with ⟨v2, MX4, MY4, s4, hv2, lo2, hi2, ex4, ey4, hs4, hP4, fx4, fy4⟩ | ⟨MX4, MY4, u, ex4, ey4, hF, fx4, fy4⟩
  · have nv2 : ¬ nI v2 = -1 := nI_m1 (by omega)
    have hT4 : TownR q b nt nc nd nr C MX4 MY4 := (hT.tok q7 fx1 fy1).tok q7 fx4 fy4
    have x130 : gR MX4 130 = q := by rw [fx4.R, fx1.R]; exact hA.1
    have y34 : gI MY4 34 = nI b := ((fy4.1 34 (by omega)).trans (fy1.1 34 (by omega))).trans hA.2.2.1
    have hT5 := hT4.setP (p := v2) ((nI_leI (a := v2) (b := 100) (by omega) (by decide)).mp hi2)
    have fyE : FY2 b MY (sA MY4 13 b (nI v2)) := (fy1.b.tr fy4.b).a (by unfold regA; omega)
    have fxE : FX2 q MX (sI MX4 (128 * q + 16) (nI v2)) := ((fx1.tr fx4).q).i (by unfold rgX; omega)
    refine Or.inl ⟨_, _, s4, nt, nc, nd, nr, C, ?_, ?_, by omega, ⟨?_, hA.fr fxE fyE, hT5, ?_, by omega⟩, fxE, fyE⟩
    · refine eq_b ex1 (eq_f i10 (eq_b (eq_b ex4 (eq_f nv2 (eq_n rfl))) (eq_f i10 ?_)))
      show some ((1 : Int32), sI MX4 (128 * gR MX4 130 + 16) (nI v2)) = _
      rw [x130]
    · refine eq_b ey1 (eq_f i10 (eq_b ey4 (eq_t hP4.f8 (eq_f (by show ¬ oob (gI MY4 34) 2; rw [y34]; exact nI_in (by omega) (by decide)) ?_))))
      show some (sA MY4 13 (gI MY4 34).toNatClampNeg (nI v2)) = _
      rw [y34, nI_clamp (by omega)]
    · exact hP4.cong (fun j h1 h2 => by rw [gI_ne (by omega)]) (by rw [gI_ne (by omega)]) rfl rfl (fun j _ => rfl) rfl (gA_sA_ne (by decide))
    · show gI MY4 33 = _
      rw [fy4.1 33 (by omega), fy1.1 33 (by omega)]
      exact hC
  · exact Or.inr ⟨MX4, MY4, eq_b ex1 (eq_f i10 (eq_b (eq_b ex4 (eq_t rfl rfl)) (eq_t rfl rfl))), eq_b ey1 (eq_f i10 (eq_b ey4 (eq_f (pos_ne hF.pos) rfl))), hF, fx1.q.tr fx4.q, fy1.b.tr fy4.b⟩
end
section
/-! STATEMENTS: doing -/
theorem TownR.bumpD {q b nt nc nd nr C v w c h : Nat} {MX MY : Mem} (hT : TownR q b nt nc nd nr C MX MY) (ht : nd < 6) (hw : WR v w) (x1 : gA MX (q + 9) nd = nI v) (y1 : gB MY 20 (6 * b + nd) = lN w) (x2 : gA MX (q + 10) nd = nI c) (y2 : gA MY 11 (6 * b + nd) = nI c) (hc : c < nc) (x3 : gA MX (q + 11) nd = nI h) (y3 : gA MY 12 (6 * b + nd) = nI h) (hh : h ≤ 23) : TownR q b nt nc (nd + 1) nr C (sI MX (128 * q + 12) (nI (nd + 1))) (sA MY 10 b (nI (nd + 1))) := by
  obtain ⟨⟨⟨a1, a2, a3⟩, ⟨a4, a5, a6⟩, ⟨a7, a8, a9⟩⟩, b1, b2, b3, ⟨c1, c2, c3⟩, ⟨p, p1, p2, p3⟩, d1, d2, d3⟩ := hT
  refine ⟨⟨⟨?_, a2, a3⟩, ⟨?_, a5, a6⟩, ⟨gI_at, ?_, ⟨by omega, fun i hi => ?_⟩⟩⟩, b1, b2, fun i hi => ?_, ⟨?_, c2, c3⟩, ⟨p, p1, ?_, p3⟩, ?_, ?_, d3⟩
  · rw [gI_ne (by omega)]; exact a1
  · rw [gI_ne (by omega)]; exact a4
  · rw [gA_sA, if_pos rfl, if_pos rfl]
  · by_cases e : i = nd
    · subst e; exact ⟨v, w, hw, x1, y1⟩
    · exact a9.2 i (by omega)
  · by_cases e : i = nd
    · subst e; exact ⟨x2.trans y2.symm, ⟨c, hc, x2⟩, x3.trans y3.symm, h, hh, x3⟩
    · exact b3 i (by omega)
  · rw [gI_ne (by omega)]; exact c1
  · rw [gI_ne (by omega)]; exact p2
  · unfold FmR xlist at d1 ⊢
    rw [gI_ne (by omega)]
    exact d1
  · unfold FmR xlist at d2 ⊢
    rw [gI_ne (by omega)]
    exact d2
def yD5 (n0 : Nat) (k : Int32) (z90 : Int32 × Mem) : Option Mem :=
  if oob k 12 then none else
  bnd (sA z90.2 12 (Int32.toNatClampNeg k) z90.1) fun M93 =>
  if (gI M93 8) = 0 then
    if oob (gI M93 34) 2 then none else
    if oob (gI M93 34) 2 then none else
    some (sA M93 10 (Int32.toNatClampNeg (gI M93 34)) ((gA M93 10 (Int32.toNatClampNeg (gI M93 34))) + (1 : Int32)))
  else
    some M93
def yD3 (n0 : Nat) (k : Int32) (z70 : Int32 × Mem) : Option Mem :=
  if oob k 12 then none else
  bnd (sA z70.2 11 (Int32.toNatClampNeg k) z70.1) fun M73 =>
  (fX12_must_ n0 (1752135026 : Int64) M73).bind fun z78 =>
  (fX12_number n0 (0 : Int32) (23 : Int32) z78).bind (yD5 n0 k)
def yD1 (n0 : Nat) (k : Int32) (z51 : Int64 × Mem) : Option Mem :=
  if oob k 12 then none else
  bnd (sB z51.2 20 (Int32.toNatClampNeg k) z51.1) fun M54 =>
  (fX12_must_ n0 (24948 : Int64) M54).bind fun z59 =>
  (fX12_knownBut n0 (1 : Int32) (0 : Int32) z59).bind (yD3 n0 k)
theorem doi_eq {n0 : Nat} {u1 : Int32} {M : Mem} : fX12_doings_20 n0 u1 M = (fX12_counts n0 u1 M).bind fun z20 => if z20.1 = 0 then some z20.2 else if oob (gI z20.2 34) 2 then none else bnd (((6 : Int32) * (gI z20.2 34)) + (gA z20.2 10 (Int32.toNatClampNeg (gI z20.2 34)))) fun k => (fX12_fresh n0 z20.2).bind (yD1 n0 k) := rfl
theorem yD5F {n0 b k : Nat} {M : Mem} {u : Int32} (hk : 6 * b ≤ k ∧ k < 6 * b + 6) (hb : b ≤ 1) (h : ¬ gI M 8 ≤ 0) : FT b M (yD5 n0 (nI k) (u, M)) := by
  have hc : (nI k).toNatClampNeg = k := nI_clamp (by omega)
  refine ⟨sA M 12 k u, ?_, rfl, rfl, FY2.r.a (by unfold regA; omega)⟩
  unfold yD5
  simp only [hc]
  exact eq_f (nI_in (by omega) (by decide)) (eq_n (eq_f (pos_ne h) rfl))
theorem yD3F {n0 b k : Nat} {M : Mem} {u : Int32} (hk : 6 * b ≤ k ∧ k < 6 * b + 6) (hb : b ≤ 1) (h : ¬ gI M 8 ≤ 0) : FT b M (yD3 n0 (nI k) (u, M)) := by
  have hc : (nI k).toNatClampNeg = k := nI_clamp (by omega)
  have h' : ¬ gI (sA M 11 k u) 8 ≤ 0 := h
  obtain ⟨M', e, a1, a2, a3⟩ := yD5F (n0 := n0) (u := 0) hk hb h'
  refine ⟨M', ?_, a1, a2, (FY2.r.a (by unfold regA; omega)).tr a3⟩
  unfold yD3
  simp only [hc]
  exact eq_f (nI_in (by omega) (by decide)) (eq_n (eq_b (ymustF h') (eq_b (ynumF h') e)))
theorem yD1F {n0 b k : Nat} {M : Mem} {u : Int64} (hk : 6 * b ≤ k ∧ k < 6 * b + 6) (hb : b ≤ 1) (h : ¬ gI M 8 ≤ 0) : FT b M (yD1 n0 (nI k) (u, M)) := by
  have hc : (nI k).toNatClampNeg = k := nI_clamp (by omega)
  have h' : ¬ gI (sB M 20 k u) 8 ≤ 0 := h
  obtain ⟨M', e, a1, a2, a3⟩ := yD3F (n0 := n0) (u := 0) hk hb h'
  refine ⟨M', ?_, a1, a2, (FY2.r.bb (by unfold regB; omega)).tr a3⟩
  unfold yD1
  simp only [hc]
  exact eq_f (nI_in (by omega) (by decide)) (eq_n (eq_b (ymustF h') (eq_b (ykF h') e)))
theorem xaddD {n0 q nd : Nat} {x1 x2 x3 : Int32} {M : Mem} (h : gI M (128 * q + 12) = nI nd) (ht : nd < 6) : fX9_addDoing n0 q x1 x2 x3 M = some (sI (sA (sA (sA M (q + 9) nd x1) (q + 10) nd x2) (q + 11) nd x3) (128 * q + 12) (nI (nd + 1))) := by
  have o : ¬ oob (gI M (128 * q + 12)) 6 := by rw [h]; exact nI_in ht (by decide)
  unfold fX9_addDoing
  refine eq_f (by rw [h]; exact nI_ge (b := 6) ht (by decide)) (eq_f o (eq_n (eq_f o (eq_n (eq_f o (eq_n ?_))))))
  simp only [gI_sA, h, nI_clamp (show nd < 2 ^ 31 by omega), nI_1]
theorem NmR.fr {q b nt nc nd nr C : Nat} {MX MY MX' MY' : Mem} (h : TownR q b nt nc nd nr C MX MY) (hq : q = 31 ∨ q = 47) (hx : FI 386 392 MX MX') (hA : gA MY' = gA MY) (hB : ∀ a i, ¬ frYb b nt nc nd a i → gB MY' a i = gB MY a i) : NmR q b nt nc nd MX' MY' := by
  refine (h.fine (MX' := MX') (MY' := MY') (fun j h1 _ => hx.2 j (by omega)) (fun a i _ _ _ => by rw [hx.A]) (fun a i _ _ _ => by rw [hA]) (fun a i _ g => hB a i g)).1
theorem doingS {n0 L s q b nt nc nd nr C : Nat} {MX MY : Mem} (hn : 1601 ≤ n0) (h : Rd L s q b nt nc nd nr C MX MY) (hk : gI MX 386 = 269) : StO L s q b MX MY (fX4_readStatement_229 n0 (bI (¬ nd = 6)) MX) (fX12_doings_20 n0 (bI (nd = 6)) MY) := by
  obtain ⟨hP, hA, hT, hC, hCs⟩ := h
  obtain ⟨f1, f2⟩ := fstP (n0 := n0) (full := nd = 6) hn hP (by rw [hk]; decide) (by rw [hk]; decide)
  rw [doi_eq]
  by_cases hf : nd = 6
  · obtain ⟨e1, e2⟩ := f1 hf
    refine Or.inr ⟨sI (sI MX 391 6) 392 (nI s), sI (sI MY 8 6) 9 (nI s), ?_, eq_b e2 (eq_t rfl rfl), Flt.mk (k := 6) (by decide) (by decide), FIf.q, FYf.b⟩
    unfold fX4_readStatement_229
    exact eq_b e1 (eq_t rfl rfl)
  obtain ⟨MX1, MY1, s1, ex1, ey1, hs1, hP1, fx1, fy1⟩ := f2 hf
  have hA1 : At q b MX1 MY1 := hA.fr fx1.q fy1.b
  have hT1 : TownR q b nt nc nd nr C MX1 MY1 := hT.tok hA.2.1 fx1 fy1
  have hb := hA.2.2.2
  have q7 := hA.2.1
  have ht : nd < 6 := by have := hT.1.2.2.2.2.1; omega
  have hkk : 6 * b ≤ 6 * b + nd ∧ 6 * b + nd < 6 * b + 6 := by omega
  have hcl : (nI (6 * b + nd)).toNatClampNeg = 6 * b + nd := nI_clamp (by omega)
  have ekk : ((6 : Int32) * (gI MY1 34)) + (gA MY1 10 (Int32.toNatClampNeg (gI MY1 34))) = nI (6 * b + nd) := by rw [hA1.2.2.1, nI_clamp (by omega), hT1.1.2.2.2.1, n6]
  have o34 : ¬ oob (gI MY1 34) 2 := by rw [hA1.2.2.1]; exact nI_in (by omega) (by decide)
  have okk : ¬ oob (nI (6 * b + nd)) 12 := nI_in (by omega) (by decide)
  unfold fX4_readStatement_229 fX4_readDoing
  rcases newP hn hP1 hA1 hT1.1 with ⟨v, w, MX2, MY2, s2, hw, ex2, ey2, hs2, hP2, fx2, fy2⟩ | ⟨MX2, MY2, u, ex2, ey2, hF, fx2, fy2⟩
  rotate_left
  · exact FT.stO hF (eq_b ex1 (eq_f i10 (eq_b (eq_b ex2 (eq_t rfl rfl)) (eq_t rfl rfl)))) (by
      obtain ⟨M', e, r⟩ := yD1F (n0 := n0) (u := u) hkk hb hF.pos
      exact ⟨M', eq_b ey1 (eq_f i10 (eq_f o34 (eq_n (eq_b ey2 (by rw [ekk]; exact e))))), r⟩) (fx1.q.tr fx2.q) (fy1.b.tr fy2.b)
  have nv : ¬ nI v = -1 := nI_m1 hw.v_lt
  have hP2' : PR L s2 MX2 (sB MY2 20 (6 * b + nd) (lN w)) := hP2.w rfl rfl rfl
  have fyA : FY2 b MY1 (sB MY2 20 (6 * b + nd) (lN w)) := fy2.b.bb (by unfold regB; omega)
  rcases skW (i := 10) (y := 24948) (kk := 270) hn (by decide) (by decide) (by decide) hP2' with ⟨MX3, MY3, s3, ex3, ey3, hs3, hP3, fx3, fy3⟩ | ⟨MX3, MY3, ex3, ey3, hF, fx3, fy3⟩
  rotate_left
  · exact FT.stO hF (eq_b ex1 (eq_f i10 (eq_b (eq_b ex2 (eq_f nv (eq_b ex3 (eq_t rfl rfl)))) (eq_t rfl rfl)))) (by
      obtain ⟨M', e, r⟩ := yD3F (n0 := n0) (u := 0) hkk hb hF.pos
      refine ⟨M', eq_b ey1 (eq_f i10 (eq_f o34 (eq_n (eq_b ey2 ?_)))), r⟩
      rw [ekk]
      unfold yD1
      simp only [hcl]
      exact eq_f okk (eq_n (eq_b ey3 (eq_b (ykF hF.pos) e)))) ((fx1.q.tr fx2.q).tr fx3.q) ((fy1.b.tr fyA).tr fy3.b)
  have fx13 : FI 386 392 MX1 MX3 := fx2.tr fx3
  have gb3 : ∀ a i, gB MY3 a i = gB (sB MY2 20 (6 * b + nd) (lN w)) a i := fun a i => by rw [fy3.2.2.2.2 a id]
  have ga3 : gA MY3 = gA MY1 := by
    funext a
    rw [fy3.2.1 a id]
    show gA MY2 a = _
    rw [fy2.2.1 a id]
  have hA3 : At q b MX3 MY3 := hA1.fr fx13.q (fyA.tr fy3.b)
  have hN3 : NmR q b nt nc nd MX3 MY3 := NmR.fr hT1 q7 fx13 ga3 (fun a i g => by
    unfold frYb at g
    rw [gb3, gB_sB]
    by_cases e : a = 20
    · rw [if_pos e, if_neg (by omega), fy2.2.2.2.2 20 id, e]
    · rw [if_neg e, fy2.2.2.2.2 a id])
  rcases corP (n0 := n0) 0 hn hP3 hA3 hN3 with ⟨MX4, MY4, ex4, ey4, hF, fx4, fy4⟩ | ⟨c, hc, ex4, -, hc4⟩
  · exact FT.stO hF (eq_b ex1 (eq_f i10 (eq_b (eq_b ex2 (eq_f nv (eq_b ex3 (eq_f i10 (eq_b ex4 (eq_t rfl rfl)))))) (eq_t rfl rfl)))) (by
      obtain ⟨M', e, r⟩ := yD3F (n0 := n0) (u := 0) hkk hb hF.pos
      refine ⟨M', eq_b ey1 (eq_f i10 (eq_f o34 (eq_n (eq_b ey2 ?_)))), r⟩
      rw [ekk]
      unfold yD1
      simp only [hcl]
      exact eq_f okk (eq_n (eq_b ey3 (eq_b ey4 e)))) (((fx1.q.tr fx2.q).tr fx3.q).tr fx4.q) (((fy1.b.tr fyA).tr fy3.b).tr fy4.b)
  have c5 := hN3.2.1.2.2.1
  obtain ⟨MX4, MY4, s4, ax4, ey4, hs4, hP4, fx4, fy4⟩ := hc4 (Hs0 (by omega))
  have nc1 : ¬ nI c = -1 := nI_m1 (by omega)
  have hP4' : PR L s4 MX4 (sA MY4 11 (6 * b + nd) (nI c)) := hP4.w rfl rfl (gA_sA_ne (by decide))
  have fyB : FY2 b MY3 (sA MY4 11 (6 * b + nd) (nI c)) := fy4.b.a (by unfold regA; omega)
  rcases skW (i := 11) (y := 1752135026) (kk := 271) hn (by decide) (by decide) (by decide) hP4' with ⟨MX5, MY5, s5, ex5, ey5, hs5, hP5, fx5, fy5⟩ | ⟨MX5, MY5, ex5, ey5, hF, fx5, fy5⟩
  rotate_left
  · exact FT.stO hF (eq_b ex1 (eq_f i10 (eq_b (eq_b ex2 (eq_f nv (eq_b ex3 (eq_f i10 (eq_b ex4 (eq_f nc1 (eq_b ax4 (eq_b ex5 (eq_t rfl (by unfold fX4_readDoing_68; exact eq_t rfl rfl)))))))))) (eq_t rfl rfl)))) (by
      obtain ⟨M', e, r⟩ := yD5F (n0 := n0) (u := 0) hkk hb hF.pos
      refine ⟨M', eq_b ey1 (eq_f i10 (eq_f o34 (eq_n (eq_b ey2 ?_)))), r⟩
      rw [ekk]
      unfold yD1 yD3
      simp only [hcl]
      exact eq_f okk (eq_n (eq_b ey3 (eq_b ey4 (eq_f okk (eq_n (eq_b ey5 (eq_b (ynumF hF.pos) e)))))))) ((((fx1.q.tr fx2.q).tr fx3.q).tr fx4.q).tr fx5.q) ((((fy1.b.tr fyA).tr fy3.b).tr fyB).tr fy5.b)
  rcases numP (lo := 0) (hi := 23) hn hP5 with ⟨v3, MX6, MY6, s6, hv3, lo3, hi3, ex6, ey6, hs6, hP6, fx6, fy6⟩ | ⟨MX6, MY6, u, ex6, ey6, hF, fx6, fy6⟩
  rotate_left
  · exact FT.stO hF (eq_b ex1 (eq_f i10 (eq_b (eq_b ex2 (eq_f nv (eq_b ex3 (eq_f i10 (eq_b ex4 (eq_f nc1 (eq_b ax4 (eq_b ex5 (eq_f i10 (eq_b ex6 (by unfold fX4_readDoing_68; exact eq_t rfl rfl))))))))))) (eq_t rfl rfl)))) (by
      obtain ⟨M', e, r⟩ := yD5F (n0 := n0) (u := u) hkk hb hF.pos
      refine ⟨M', eq_b ey1 (eq_f i10 (eq_f o34 (eq_n (eq_b ey2 ?_)))), r⟩
      rw [ekk]
      unfold yD1 yD3
      simp only [hcl]
      exact eq_f okk (eq_n (eq_b ey3 (eq_b ey4 (eq_f okk (eq_n (eq_b ey5 (eq_b ey6 e)))))))) (((((fx1.q.tr fx2.q).tr fx3.q).tr fx4.q).tr fx5.q).tr fx6.q) (((((fy1.b.tr fyA).tr fy3.b).tr fyB).tr fy5.b).tr fy6.b)
  -- the statement is read
  have nv3 : ¬ nI v3 = -1 := nI_m1 (by omega)
  have fxT : FI 386 392 MX1 MX6 := ((fx13.tr fx4).tr fx5).tr fx6
  have x130 : gR MX6 130 = q := by rw [fxT.R]; exact hA1.1
  have xcnt : gI MX6 (128 * q + 12) = nI nd := (fxT.2 _ (by omega)).trans hT1.1.2.2.1
  have fy56 : ∀ a i, gA MY6 a i = gA (sA MY4 11 (6 * b + nd) (nI c)) a i := fun a i => by rw [fy6.2.1 a id, fy5.2.1 a id]
  have fy34 : ∀ a i, gA MY4 a i = gA MY1 a i := fun a i => by rw [fy4.2.1 a id, ga3]
  have gb6 : ∀ a i, gB MY6 a i = gB (sB MY2 20 (6 * b + nd) (lN w)) a i := fun a i => by
    rw [fy6.2.2.2.2 a id, fy5.2.2.2.2 a id]
    show gB MY4 a i = _
    rw [fy4.2.2.2.2 a id, gb3]
  have y34 : gI MY6 34 = nI b := by
    rw [fy6.1 34 (by omega), fy5.1 34 (by omega)]
    show gI MY4 34 = _
    rw [fy4.1 34 (by omega)]
    exact hA3.2.2.1
  have y33 : gI MY6 33 = nI C := by
    rw [fy6.1 33 (by omega), fy5.1 33 (by omega)]
    show gI MY4 33 = _
    rw [fy4.1 33 (by omega), fy3.1 33 (by omega)]
    show gI MY2 33 = _
    rw [fy2.1 33 (by omega), fy1.1 33 (by omega)]
    exact hC
  have y2 : gA (sA MY6 12 (6 * b + nd) (nI v3)) 10 b = nI nd := by
    rw [gA_sA_ne (by decide), fy56, gA_sA_ne (by decide), fy34]
    exact hT1.1.2.2.2.1
  have hT6 : TownR q b nt nc nd nr C (sA (sA (sA MX6 (q + 9) nd (nI v)) (q + 10) nd (nI c)) (q + 11) nd (nI v3)) (sA MY6 12 (6 * b + nd) (nI v3)) := by
    refine hT1.fine (fun j h1 h2 => fxT.2 j (by omega)) (fun a i h1 h2 h3 => ?_) (fun a i h1 h2 h3 => ?_) (fun a i h2 h3 => ?_)
    · unfold frX at h3
      rw [gA_sA]
      by_cases e3 : a = q + 11
      · rw [if_pos e3, if_neg (by omega), gA_sA_ne (by omega), gA_sA_ne (by omega), fxT.A, e3]
      · rw [if_neg e3, gA_sA]
        by_cases e2 : a = q + 10
        · rw [if_pos e2, if_neg (by omega), gA_sA_ne (by omega), fxT.A, e2]
        · rw [if_neg e2, gA_sA]
          by_cases e1 : a = q + 9
          · rw [if_pos e1, if_neg (by omega), fxT.A, e1]
          · rw [if_neg e1, fxT.A]
    · unfold frYa at h3
      rw [gA_sA]
      by_cases e4 : a = 12
      · rw [if_pos e4, if_neg (by omega), fy56, gA_sA_ne (by decide), fy34, e4]
      · rw [if_neg e4, fy56, gA_sA]
        by_cases e3 : a = 11
        · rw [if_pos e3, if_neg (by omega), fy34, e3]
        · rw [if_neg e3, fy34]
    · unfold frYb at h3
      show gB MY6 a i = _
      rw [gb6, gB_sB]
      by_cases e : a = 20
      · rw [if_pos e, if_neg (by omega), fy2.2.2.2.2 20 id, e]
      · rw [if_neg e, fy2.2.2.2.2 a id]
  have hT7 := hT6.bumpD ht hw (by rw [gA_sA_ne (by omega), gA_sA_ne (by omega), gA_sA, if_pos rfl, if_pos rfl]) (by
    show gB MY6 20 _ = _
    rw [gb6, gB_sB, if_pos rfl, if_pos rfl]) (by rw [gA_sA_ne (by omega), gA_sA, if_pos rfl, if_pos rfl]) (by rw [gA_sA_ne (by decide), fy56, gA_sA, if_pos rfl, if_pos rfl]) hc (by rw [gA_sA, if_pos rfl, if_pos rfl]) (by rw [gA_sA, if_pos rfl, if_pos rfl]) ((nI_leI (a := v3) (b := 23) (by omega) (by decide)).mp hi3)
  have fyE : FY2 b MY (sA (sA MY6 12 (6 * b + nd) (nI v3)) 10 b (nI (nd + 1))) := (((((((fy1.b.tr fyA).tr fy3.b).tr fyB).tr fy5.b).tr fy6.b).a (by unfold regA; omega)).a (by unfold regA; omega))
  have fxE : FX2 q MX (sI (sA (sA (sA MX6 (q + 9) nd (nI v)) (q + 10) nd (nI c)) (q + 11) nd (nI v3)) (128 * q + 12) (nI (nd + 1))) := (((fx1.tr fxT).q.a (by omega)).a (by omega)).a (by omega) |>.i (by unfold rgX; omega)
  refine Or.inl ⟨_, _, s6, nt, nc, nd + 1, nr, C, ?_, ?_, by omega, ⟨?_, hA.fr fxE fyE, hT7, ?_, by omega⟩, fxE, fyE⟩
  · have hd : fX4_readDoing_68 n0 (nI v) (nI c) (nI v3) MX6 = some (1, sI (sA (sA (sA MX6 (q + 9) nd (nI v)) (q + 10) nd (nI c)) (q + 11) nd (nI v3)) (128 * q + 12) (nI (nd + 1))) := by
      unfold fX4_readDoing_68
      refine eq_f nv3 (eq_b ?_ rfl)
      show fX9_addDoing n0 (gR MX6 130) _ _ _ MX6 = _
      rw [x130]
      exact xaddD xcnt ht
    exact eq_b ex1 (eq_f i10 (eq_b (eq_b ex2 (eq_f nv (eq_b ex3 (eq_f i10 (eq_b ex4 (eq_f nc1 (eq_b ax4 (eq_b ex5 (eq_f i10 (eq_b ex6 hd)))))))))) (eq_f i10 rfl)))
  · refine eq_b ey1 (eq_f i10 (eq_f o34 (eq_n (eq_b ey2 ?_))))
    rw [ekk]
    unfold yD1 yD3 yD5
    simp only [hcl]
    have o34' : ¬ oob (gI MY6 34) 2 := by rw [y34]; exact nI_in (by omega) (by decide)
    refine eq_f okk (eq_n (eq_b ey3 (eq_b ey4 (eq_f okk (eq_n (eq_b ey5 (eq_b ey6 (eq_f okk (eq_n (eq_t hP6.f8 (eq_f o34' (eq_f o34' ?_))))))))))))
    have c34 : (gI (sA MY6 12 (6 * b + nd) (nI v3)) 34).toNatClampNeg = b := by
      show (gI MY6 34).toNatClampNeg = b
      rw [y34, nI_clamp (by omega)]
    show some (sA (sA MY6 12 (6 * b + nd) (nI v3)) 10 (gI (sA MY6 12 (6 * b + nd) (nI v3)) 34).toNatClampNeg (gA (sA MY6 12 (6 * b + nd) (nI v3)) 10 (gI (sA MY6 12 (6 * b + nd) (nI v3)) 34).toNatClampNeg + 1)) = _
    rw [c34, y2, nI_1]
  · refine hP6.cong (fun j h1 h2 => ?_) ?_ ?_ ?_ (fun j _ => rfl) rfl ?_
    · rw [gI_ne (by omega)]; rfl
    · rw [gI_ne (by omega)]; rfl
    · show gA (sA (sA (sA MX6 (q + 9) nd (nI v)) (q + 10) nd (nI c)) (q + 11) nd (nI v3)) 4 = _
      rw [gA_sA_ne (by omega), gA_sA_ne (by omega), gA_sA_ne (by omega)]
    · show gA (sA (sA (sA MX6 (q + 9) nd (nI v)) (q + 10) nd (nI c)) (q + 11) nd (nI v3)) 6 = _
      rw [gA_sA_ne (by omega), gA_sA_ne (by omega), gA_sA_ne (by omega)]
    · rw [gA_sA_ne (by decide), gA_sA_ne (by decide)]
  · show gI MY6 33 = _
    exact y33
end
section
/-! STATEMENTS: palm -/
theorem or_bit : ∀ m, m < 32 → ∀ j, j < 5 → (nI m ||| ((1 : Int32) <<< (nI j &&& 31))) = nI (m ||| 2 ^ j) ∧ (m ||| 2 ^ j) < 32 ∧ ∀ i, i < 5 → ((((nI (m ||| 2 ^ j) >>> (nI i &&& 31)) &&& (1 : Int32)) = (1 : Int32)) ↔ ((((nI m >>> (nI i &&& 31)) &&& (1 : Int32)) = (1 : Int32)) ∨ i = j)) := by decide +kernel
theorem Hs_or {m i j : Nat} (hm : m < 32) (hj : j < 5) (hi : i < 5) : Hs (nI (m ||| 2 ^ j)) i ↔ (Hs (nI m) i ∨ i = j) := (or_bit m hm j hj).2.2 i hi
def yPR (n0 : Nat) (x1 : Int32) (M : Mem) : Option Mem :=
    (fX12_knownBut n0 (1 : Int32) x1 M).bind fun z62 =>
    (fX12_must_ n0 (6840691 : Int64) z62.2).bind fun z70 =>
    (fX12_knownBut n0 (0 : Int32) (0 : Int32) z70).bind fun z76 =>
    if (gI z76.2 8) = 0 then
      if oob (((5 : Int32) * (gI z76.2 34)) + z62.1) 10 then none else
      some (sA z76.2 6 (Int32.toNatClampNeg (((5 : Int32) * (gI z76.2 34)) + z62.1)) z76.1)
    else
      some z76.2
theorem yPloop {n0 b nc : Nat} {M : Mem} (hb : b ≤ 1) (hc : nc ≤ 5) (h34 : gI M 34 = nI b) (h5 : gA M 5 b = nI nc) : ∀ (w j m : Nat), j ≤ nc → nc < w + j → m < 32 → (∀ i, i < 5 → (Hs (nI m) i ↔ (i < j ∧ ¬ gA M 6 (5 * b + i) = -1))) → ∃ m', m' < 32 ∧ (∀ i, i < 5 → (Hs (nI m') i ↔ (i < nc ∧ ¬ gA M 6 (5 * b + i) = -1))) ∧ loopN (bX12_palming_13 n0) (fun _ _ _ => none) w (nI m) (nI j) M = yPR n0 (nI m') M := by
  intro w
  induction w with
  | zero => intro j m _ h; omega
  | succ w ih =>
    intro j m hj hw hm hH
    have o2 : ¬ oob (gI M 34) 2 := by rw [h34]; exact nI_in (by omega) (by decide)
    have hcb : (gI M 34).toNatClampNeg = b := by rw [h34, nI_clamp (by omega)]
    rw [lpS, bX12_palming_13]
    by_cases h : nc ≤ j
    · obtain rfl : j = nc := by omega
      refine ⟨m, hm, hH, eq_f o2 (eq_t ?_ rfl)⟩
      rw [hcb, h5]
      exact nI_le (Nat.le_refl _) (by omega)
    · have e5 : (5 : Int32) * gI M 34 + nI j = nI (5 * b + j) := by rw [h34, n5]
      have o10 : ¬ oob ((5 : Int32) * gI M 34 + nI j) 10 := by rw [e5]; exact nI_in (by omega) (by decide)
      have hci : ((5 : Int32) * gI M 34 + nI j).toNatClampNeg = 5 * b + j := by rw [e5, nI_clamp (by omega)]
      have hlt : ¬ gA M 5 (gI M 34).toNatClampNeg ≤ nI j := by rw [hcb, h5]; exact nI_ge (by omega) (by omega)
      by_cases g : gA M 6 (5 * b + j) = -1
      · obtain ⟨m', g1, g2, g3⟩ := ih (j + 1) m (by omega) (by omega) hm (fun i hi => by
          rw [hH i hi]
          constructor
          · intro q; exact ⟨by omega, q.2⟩
          · intro q
            refine ⟨?_, q.2⟩
            by_cases e : i = j
            · subst e; exact absurd g q.2
            · omega)
        refine ⟨m', g1, g2, eq_f o2 (eq_f hlt (eq_f o10 (eq_t (by rw [hci]; exact g) ?_)))⟩
        unfold fX12_palming_51
        rw [nI_1, Int32.or_zero]
        exact g3
      · have hb := or_bit m hm j (by omega)
        obtain ⟨m', g1, g2, g3⟩ := ih (j + 1) (m ||| 2 ^ j) (by omega) (by omega) hb.2.1 (fun i hi => by
          rw [Hs_or hm (by omega) hi, hH i hi]
          constructor
          · rintro (q | q)
            · exact ⟨by omega, q.2⟩
            · subst q; exact ⟨by omega, g⟩
          · intro q
            by_cases e : i = j
            · exact Or.inr e
            · exact Or.inl ⟨by omega, q.2⟩)
        refine ⟨m', g1, g2, eq_f o2 (eq_f hlt (eq_f o10 (eq_f (by rw [hci]; exact g) ?_)))⟩
        unfold fX12_palming_51
        rw [nI_1, hb.1]
        exact g3
theorem TownR.setH {q b nt nc nd nr C c t : Nat} {MX MY : Mem} (h : TownR q b nt nc nd nr C MX MY) (hc : c < nc) (ht : t < nt) : TownR q b nt nc nd nr C (sA MX (q + 5) c (nI t)) (sA MY 6 (5 * b + c) (nI t)) := by
  obtain ⟨⟨⟨a1, a2, a3⟩, ⟨a4, a5, a6⟩, ⟨a7, a8, a9⟩⟩, b1, b2, b3, ⟨c1, c2, c3⟩, ⟨p, p1, p2, p3⟩, d1, d2, d3⟩ := h
  have xn : ∀ a, a ≠ q + 5 → gA (sA MX (q + 5) c (nI t)) a = gA MX a := fun a ha => gA_sA_ne ha
  refine ⟨⟨⟨a1, a2, ?_⟩, ⟨a4, a5, ?_⟩, ⟨a7, a8, ?_⟩⟩, ?_, fun i hi => ?_, ?_, ⟨c1, c2, ?_⟩, ⟨p, p1, p2, p3⟩, ?_, ?_, d3⟩
  · rw [xn _ (by omega)]; exact a3
  · rw [xn _ (by omega)]; exact a6
  · rw [xn _ (by omega)]; exact a9
  · rw [xn _ (by omega), xn _ (by omega)]; exact b1
  · dsimp only
    rw [gA_sA, if_pos rfl, gA_sA, if_pos rfl]
    by_cases e : i = c
    · rw [if_pos e, if_pos (by omega)]
      exact ⟨rfl, Or.inr ⟨t, ht, rfl⟩⟩
    · rw [if_neg e, if_neg (by omega)]
      exact b2 i hi
  · rw [xn _ (by omega), xn _ (by omega)]; exact b3
  · rw [xn _ (by omega), xn _ (by omega), xn _ (by omega)]; exact c3
  · unfold FmR xlist at d1 ⊢
    rw [xn _ (by omega)]
    exact d1
  · unfold FmR xlist at d2 ⊢
    rw [xn _ (by omega)]
    exact d2
def xPalm (n0 : Nat) (M : Mem) : Option (Int32 × Mem) :=
    (fX4_skipFirst n0 (1 : Int32) M).bind fun z192 =>
    if z192.1 = 0 then
      some ((0 : Int32), z192.2)
    else
      (fX4_readPalm n0 z192.2).bind fun z199 =>
      if z199.1 = 0 then
        some ((0 : Int32), z199.2)
      else
        some ((1 : Int32), z199.2)
theorem palmS {n0 L s q b nt nc nd nr C : Nat} {MX MY : Mem} (hn : 1601 ≤ n0) (h : Rd L s q b nt nc nd nr C MX MY) (hk : gI MX 386 = 267) : StO L s q b MX MY (xPalm n0 MX) (fX12_palming n0 MY) := by
  obtain ⟨hP, hA, hT, hC, hCs⟩ := h
  obtain ⟨-, f2⟩ := fstP (n0 := n0) (full := False) hn hP (by rw [hk]; decide) (by rw [hk]; decide)
  obtain ⟨MX1, MY1, s1, ex1, ey1, hs1, hP1, fx1, fy1⟩ := f2 id
  rw [bI_t (show ¬ False from id)] at ex1
  rw [bI_f (show ¬ False from id)] at ey1
  have q7 := hA.2.1
  have hb := hA.2.2.2
  have hA1 : At q b MX1 MY1 := hA.fr fx1.q fy1.b
  have hT1 : TownR q b nt nc nd nr C MX1 MY1 := hT.tok q7 fx1 fy1
  have c5 := hT1.1.2.1.2.2.1
  have t6 := hT1.1.1.2.2.1
  obtain ⟨m, hm, hH, eloop⟩ := yPloop (n0 := n0) hb c5 hA1.2.2.1 hT1.1.2.1.2.1 n0 0 0 (by omega) (by omega) (by omega) (fun i hi => ⟨fun g => absurd g (Hs0 (by omega)), fun g => by omega⟩)
  have ypal : ∀ r, yPR n0 (nI m) MY1 = r → fX12_palming n0 MY = r := fun r hr => by
    unfold fX12_palming fX12_palming_13
    exact eq_b ey1 (eq_f i10 (eloop.trans hr))
  unfold xPalm fX4_readPalm
  have yF : ∀ M, ¬ gI M 8 ≤ 0 → fX12_knownBut n0 1 (nI m) MY1 = some (0, M) → yPR n0 (nI m) MY1 = some M := fun M h8 e => by
    unfold yPR
    exact eq_b e (eq_b (ymustF h8) (eq_b (ykF h8) (eq_f (pos_ne h8) rfl)))
  rcases corP (n0 := n0) (nI m) hn hP1 hA1 hT1.1 with ⟨MX2, MY2, ex2, ey2, hF, fx2, fy2⟩ | ⟨c, hc, ex2, hc3, hc4⟩
  · exact Or.inr ⟨MX2, MY2, eq_b ex1 (eq_f i10 (eq_b (eq_b ex2 (eq_t rfl rfl)) (eq_t rfl rfl))), ypal _ (yF MY2 hF.pos ey2), hF, fx1.q.tr fx2.q, fy1.b.tr fy2.b⟩
  have nc1 : ¬ nI c = -1 := nI_m1 (by omega)
  have oc : ¬ oob (nI c) 5 := nI_in (by omega) (by decide)
  have hcl : (nI c).toNatClampNeg = c := nI_clamp (by omega)
  have xp : gA MX1 (gR MX1 130 + 5) (nI c).toNatClampNeg = gA MY1 6 (5 * b + c) := by
    rw [hA1.1, hcl]
    exact (hT1.2.2.1 c hc).1
  by_cases hp : gA MY1 6 (5 * b + c) = -1
  rotate_left
  · have e3 := hc3 ((hH c (by omega)).mpr ⟨hc, hp⟩)
    refine Or.inr ⟨sI (sI MX1 391 3) 392 (nI s1), sI (sI MY1 8 3) 9 (nI s1), ?_, ypal _ (yF _ (n8f (k := 3) (by decide) (by decide)) e3), Flt.mk (k := 3) (by decide) (by decide), fx1.q.tr FIf.q, fy1.b.tr FYf.b⟩
    refine eq_b ex1 (eq_f i10 (eq_b (eq_b ex2 (eq_f nc1 (eq_f oc (eq_f ?_ (eq_b xfail (eq_t (Or.inl rfl) rfl)))))) (eq_t rfl ?_)))
    · show ¬ gA MX1 (gR MX1 130 + 5) (nI c).toNatClampNeg = -1
      rw [xp]; exact hp
    · show some ((0 : Int32), sI (sI MX1 391 3) 392 (gI MX1 387)) = _
      rw [hP1.st]
  have xp1 : gA MX1 (gR MX1 130 + 5) (nI c).toNatClampNeg = -1 := xp.trans hp
  obtain ⟨MX2, MY2, s2, ax2, ey2, hs2, hP2, fx2, fy2⟩ := hc4 (fun g => ((hH c (by omega)).mp g).2 hp)
  rcases skW (i := 8) (y := 6840691) (kk := 268) hn (by decide) (by decide) (by decide) hP2 with ⟨MX3, MY3, s3, ex3, ey3, hs3, hP3, fx3, fy3⟩ | ⟨MX3, MY3, ex3, ey3, hF, fx3, fy3⟩
  rotate_left
  · refine Or.inr ⟨MX3, MY3, eq_b ex1 (eq_f i10 (eq_b (eq_b ex2 (eq_f nc1 (eq_f oc (eq_t xp1 (eq_b ax2 (eq_b ex3 (eq_t rfl rfl))))))) (eq_t rfl rfl))), ypal _ ?_, hF, (fx1.q.tr fx2.q).tr fx3.q, (fy1.b.tr fy2.b).tr fy3.b⟩
    unfold yPR
    exact eq_b ey2 (eq_b ey3 (eq_b (ykF hF.pos) (eq_f (pos_ne hF.pos) rfl)))
  have fx13 := fx2.tr fx3
  have fy13 := fy2.tr fy3
  have hA3 : At q b MX3 MY3 := hA1.fr fx13.q fy13.b
  have hT3 : TownR q b nt nc nd nr C MX3 MY3 := hT1.tok q7 fx13 fy13
  rcases thgP (n0 := n0) hn hP3 hA3 hT3.1 with ⟨k1, e1⟩ | ⟨k1, e0, e1⟩ | ⟨k1, t, ht, e0, MX4, MY4, s4, ax4, ey4, hs4, hP4, fx4, fy4⟩
  · refine Or.inr ⟨sI (sI MX3 391 1) 392 (gI MX3 388), sI (sI MY3 8 1) 9 (gI MX3 388), eq_b ex1 (eq_f i10 (eq_b (eq_b ex2 (eq_f nc1 (eq_f oc (eq_t xp1 (eq_b ax2 (eq_b ex3 (eq_f i10 (eq_f k1 (eq_b xfailH (eq_t (Or.inl rfl) rfl)))))))))) (eq_t rfl rfl))), ypal _ ?_, Flt.mk (k := 1) (by decide) (by decide), (fx1.q.tr fx13.q).tr FIf.q, (fy1.b.tr fy13.b).tr FYf.b⟩
    unfold yPR
    exact eq_b ey2 (eq_b ey3 (eq_b e1 (eq_f (pos_ne (n8f (k := 1) (by decide) (by decide))) rfl)))
  · refine Or.inr ⟨sI (sI MX3 391 3) 392 (nI s3), sI (sI MY3 8 3) 9 (nI s3), eq_b ex1 (eq_f i10 (eq_b (eq_b ex2 (eq_f nc1 (eq_f oc (eq_t xp1 (eq_b ax2 (eq_b ex3 (eq_f i10 (eq_t k1 (eq_b e0 (eq_t rfl (eq_b xfail (eq_t (Or.inl rfl) rfl)))))))))))) (eq_t rfl ?_))), ypal _ ?_, Flt.mk (k := 3) (by decide) (by decide), (fx1.q.tr fx13.q).tr FIf.q, (fy1.b.tr fy13.b).tr FYf.b⟩
    · show some ((0 : Int32), sI (sI MX3 391 3) 392 (gI MX3 387)) = _
      rw [hP3.st]
    · unfold yPR
      exact eq_b ey2 (eq_b ey3 (eq_b e1 (eq_f (pos_ne (n8f (k := 3) (by decide) (by decide))) rfl)))
  · have nt1 : ¬ nI t = -1 := nI_m1 (by omega)
    have hT4 : TownR q b nt nc nd nr C MX4 MY4 := hT3.tok q7 fx4 fy4
    have x130 : gR MX4 130 = q := by rw [fx4.R]; exact hA3.1
    have y34 : gI MY4 34 = nI b := (fy4.1 34 (by omega)).trans hA3.2.2.1
    have fyE : FY2 b MY (sA MY4 6 (5 * b + c) (nI t)) := ((fy1.b.tr fy13.b).tr fy4.b).a (by unfold regA; omega)
    have fxE : FX2 q MX (sA MX4 (q + 5) c (nI t)) := ((fx1.q.tr fx13.q).tr fx4.q).a (by omega)
    refine Or.inl ⟨_, _, s4, nt, nc, nd, nr, C, ?_, ypal _ ?_, by omega, ⟨?_, hA.fr fxE fyE, hT4.setH hc ht, ?_, by omega⟩, fxE, fyE⟩
    · refine eq_b ex1 (eq_f i10 (eq_b (eq_b ex2 (eq_f nc1 (eq_f oc (eq_t xp1 (eq_b ax2 (eq_b ex3 (eq_f i10 (eq_t k1 (eq_b e0 (eq_f nt1 (eq_b ax4 (eq_f oc (eq_n rfl)))))))))))) ) (eq_f i10 ?_)))
      show some ((1 : Int32), sA MX4 (gR MX4 130 + 5) (nI c).toNatClampNeg (nI t)) = _
      rw [x130, hcl]
    · unfold yPR
      have e5 : (5 : Int32) * gI MY4 34 + nI c = nI (5 * b + c) := by rw [y34, n5]
      refine eq_b ey2 (eq_b ey3 (eq_b ey4 (eq_t hP4.f8 (eq_f (by show ¬ oob ((5 : Int32) * gI MY4 34 + nI c) 10; rw [e5]; exact nI_in (by omega) (by decide)) ?_))))
      show some (sA MY4 6 ((5 : Int32) * gI MY4 34 + nI c).toNatClampNeg (nI t)) = _
      rw [e5, nI_clamp (by omega)]
    · exact hP4.cong (fun j h1 h2 => rfl) rfl (gA_sA_ne (by omega)) (gA_sA_ne (by omega)) (fun j _ => rfl) rfl (gA_sA_ne (by decide))
    · show gI MY4 33 = _
      rw [fy4.1 33 (by omega), fy3.1 33 (by omega), fy2.1 33 (by omega), fy1.1 33 (by omega)]
      exact hC
end
section
/-! STATEMENTS: road -/
section RD
variable {n0 q nr : Nat} {x1 x2 : Int32} {M : Mem}
theorem xr62 {k2 : Int32 → Int32 → Int32 → Mem → Option (Int32 × Mem)} {x3 x4 u0 : Int32} (h : ¬ x4 = 0 ∨ ¬ u0 = 0) : fX9_hasRoad_62 n0 q k2 x1 x2 x3 x4 u0 M = some (1, M) := by
  unfold fX9_hasRoad_62
  by_cases g : x4 = 0
  · rcases h with h | h
    · exact absurd g h
    · exact eq_t g (eq_f h rfl)
  · exact eq_f g rfl
theorem xr35 {j : Nat} {k2 : Int32 → Int32 → Int32 → Mem → Option (Int32 × Mem)} {u0 : Int32} (hj : j < 10) : fX9_hasRoad_35 n0 q k2 x1 x2 (nI j) u0 M = fX9_hasRoad_62 n0 q k2 x1 x2 (nI j) u0 (bI (gA M (q + 6) j = x2 ∧ gA M (q + 7) j = x1)) M := by
  have o : ¬ oob (nI j) 10 := nI_in hj (by decide)
  have hcl : (nI j).toNatClampNeg = j := nI_clamp (by omega)
  unfold fX9_hasRoad_35 fX9_hasRoad_61
  simp only [hcl]
  by_cases h1 : gA M (q + 6) j = x2
  · by_cases h2 : gA M (q + 7) j = x1
    · rw [bI_t ⟨h1, h2⟩]
      exact eq_f o (eq_t h1 (eq_f o (eq_t h2 rfl)))
    · rw [bI_f (fun g => h2 g.2)]
      exact eq_f o (eq_t h1 (eq_f o (eq_f h2 rfl)))
  · rw [bI_f (fun g => h1 g.1)]
    exact eq_f o (eq_f h1 rfl)
end RD
theorem xroadL {n0 q nr a c : Nat} {M : Mem} (h10 : nr ≤ 10) (hr : gI M (128 * q + 8) = nI nr) : ∀ (w j : Nat), j ≤ nr → nr < w + j → (∀ k, k < j → ¬ Jn (gA M (q + 6)) (gA M (q + 7)) k a c) → (loopN (bX9_hasRoad_2 n0 q) (fun _ _ _ _ => none) w (nI a) (nI c) (nI j) M = some (1, M) ∧ ∃ k, k < nr ∧ Jn (gA M (q + 6)) (gA M (q + 7)) k a c) ∨ (loopN (bX9_hasRoad_2 n0 q) (fun _ _ _ _ => none) w (nI a) (nI c) (nI j) M = some (0, M) ∧ ∀ k, k < nr → ¬ Jn (gA M (q + 6)) (gA M (q + 7)) k a c) := by
  intro w
  induction w with
  | zero => intro j _ h; omega
  | succ w ih =>
    intro j hj hw hne
    rw [lpS, bX9_hasRoad_2]
    by_cases h : nr ≤ j
    · exact Or.inr ⟨eq_t (by rw [hr]; exact nI_le h (by omega)) rfl, fun k hk => hne k (by omega)⟩
    · have o : ¬ oob (nI j) 10 := nI_in (by omega) (by decide)
      have hcl : (nI j).toNatClampNeg = j := nI_clamp (by omega)
      have g1 : ¬ gI M (128 * q + 8) ≤ nI j := by rw [hr]; exact nI_ge (by omega) (by omega)
      simp only [hcl]
      by_cases e1 : gA M (q + 6) j = nI a ∧ gA M (q + 7) j = nI c
      · refine Or.inl ⟨eq_f g1 (eq_f o (eq_t e1.1 (eq_f o (eq_t e1.2 ?_)))), j, by omega, Or.inl e1⟩
        rw [xr35 (by omega)]
        exact xr62 (Or.inl i10)
      · have mid : ∀ r, fX9_hasRoad_35 n0 q (loopN (bX9_hasRoad_2 n0 q) (fun _ _ _ _ => none) w) (nI a) (nI c) (nI j) 0 M = r → (if gI M (128 * q + 8) ≤ nI j then some (0, M) else if oob (nI j) 10 then none else if gA M (q + 6) j = nI a then if oob (nI j) 10 then none else if gA M (q + 7) j = nI c then fX9_hasRoad_35 n0 q (loopN (bX9_hasRoad_2 n0 q) (fun _ _ _ _ => none) w) (nI a) (nI c) (nI j) 1 M else fX9_hasRoad_34 n0 q (loopN (bX9_hasRoad_2 n0 q) (fun _ _ _ _ => none) w) (nI a) (nI c) (nI j) M else fX9_hasRoad_34 n0 q (loopN (bX9_hasRoad_2 n0 q) (fun _ _ _ _ => none) w) (nI a) (nI c) (nI j) M) = r := by
          intro r hr'
          by_cases e2 : gA M (q + 6) j = nI a
          · exact eq_f g1 (eq_f o (eq_t e2 (eq_f o (eq_f (fun e3 => e1 ⟨e2, e3⟩) hr'))))
          · exact eq_f g1 (eq_f o (eq_f e2 hr'))
        by_cases e2 : gA M (q + 6) j = nI c ∧ gA M (q + 7) j = nI a
        · refine Or.inl ⟨mid _ ?_, j, by omega, Or.inr e2⟩
          rw [xr35 (by omega)]
          exact xr62 (Or.inr (bz e2))
        · have e3 : fX9_hasRoad_35 n0 q (loopN (bX9_hasRoad_2 n0 q) (fun _ _ _ _ => none) w) (nI a) (nI c) (nI j) 0 M = loopN (bX9_hasRoad_2 n0 q) (fun _ _ _ _ => none) w (nI a) (nI c) (nI (j + 1)) M := by
            rw [xr35 (by omega), bI_f e2]
            unfold fX9_hasRoad_62
            rw [nI_1]
            exact eq_t rfl (eq_t rfl rfl)
          rcases ih (j + 1) (by omega) (by omega) (fun k hk => by
            by_cases q : k = j
            · rw [q]; exact fun g => by
                rcases g with g | g
                · exact e1 g
                · exact e2 g
            · exact hne k (by omega)) with ⟨r1, r2⟩ | ⟨r1, r2⟩
          · exact Or.inl ⟨mid _ (e3.trans r1), r2⟩
          · exact Or.inr ⟨mid _ (e3.trans r1), r2⟩
def yRR (n0 : Nat) (x1 x2 : Int32) (M : Mem) : Option Mem :=
    (fX12_knownBut n0 (1 : Int32) x2 M).bind fun z89 =>
    (fX12_must_ n0 (495874044019 : Int64) z89.2).bind fun z97 =>
    (fX12_number n0 (1 : Int32) (30 : Int32) z97).bind fun z104 =>
    if (gI z104.2 8) ≤ 0 then
      (fX12_at n0 (gI z104.2 34) x1 z89.1 z104.2).bind fun z128 =>
      if oob z128.1 50 then none else
      bnd (sA z128.2 8 (Int32.toNatClampNeg z128.1) z104.1) fun M133 =>
      (fX12_at n0 (gI M133 34) z89.1 x1 M133).bind fun z145 =>
      if oob z145.1 50 then none else
      bnd (sA z145.2 8 (Int32.toNatClampNeg z145.1) z104.1) fun M150 =>
      if oob (gI M150 34) 2 then none else
      if oob (gI M150 34) 2 then none else
      some (sA M150 7 (Int32.toNatClampNeg (gI M150 34)) ((gA M150 7 (Int32.toNatClampNeg (gI M150 34))) + (1 : Int32)))
    else
      some z104.2
theorem n25 (b a c : Nat) : (25 : Int32) * nI b + (5 : Int32) * nI a + nI c = nI (25 * b + (5 * a + c)) := by
  rw [show 25 * b + (5 * a + c) = 25 * b + 5 * a + c by omega, ← nI_add, ← nI_add, ← nI_mul, ← nI_mul]
  rfl
theorem yat {n0 b a c : Nat} {M : Mem} : fX12_at n0 (nI b) (nI a) (nI c) M = some (nI (25 * b + (5 * a + c)), M) := by
  unfold fX12_at
  rw [n25]
theorem yRloop {n0 b a : Nat} {M : Mem} (hb : b ≤ 1) (ha : a < 5) (h34 : gI M 34 = nI b) : ∀ (w j m : Nat), j ≤ 5 → 5 < w + j → m < 32 → (∀ i, i < 5 → (Hs (nI m) i ↔ (i = a ∨ (i < j ∧ ¬ gA M 8 (25 * b + (5 * a + i)) ≤ 0)))) → ∃ m', m' < 32 ∧ (∀ i, i < 5 → (Hs (nI m') i ↔ (i = a ∨ ¬ gA M 8 (25 * b + (5 * a + i)) ≤ 0))) ∧ loopN (bX12_roading_47 n0) (fun _ _ _ _ => none) w (nI a) (nI m) (nI j) M = yRR n0 (nI a) (nI m') M := by
  intro w
  induction w with
  | zero => intro j m _ h; omega
  | succ w ih =>
    intro j m hj hw hm hH
    rw [lpS, bX12_roading_47]
    by_cases h : 5 ≤ j
    · refine ⟨m, hm, fun i hi => ?_, eq_t (nI_le (a := 5) h (by omega)) rfl⟩
      rw [hH i hi]
      constructor
      · rintro (q | q)
        · exact Or.inl q
        · exact Or.inr q.2
      · rintro (q | q)
        · exact Or.inl q
        · exact Or.inr ⟨by omega, q⟩
    · have e5 : fX12_at n0 (gI M 34) (nI a) (nI j) M = some (nI (25 * b + (5 * a + j)), M) := by rw [h34]; exact yat
      have o : ¬ oob (nI (25 * b + (5 * a + j))) 50 := nI_in (by omega) (by decide)
      have hci : (nI (25 * b + (5 * a + j))).toNatClampNeg = 25 * b + (5 * a + j) := nI_clamp (by omega)
      have hlt : ¬ (5 : Int32) ≤ nI j := nI_ge (b := 5) (by omega) (by decide)
      by_cases g : gA M 8 (25 * b + (5 * a + j)) ≤ 0
      · obtain ⟨m', g1, g2, g3⟩ := ih (j + 1) m (by omega) (by omega) hm (fun i hi => by
          rw [hH i hi]
          constructor
          · rintro (q | q)
            · exact Or.inl q
            · exact Or.inr ⟨by omega, q.2⟩
          · rintro (q | q)
            · exact Or.inl q
            · refine Or.inr ⟨?_, q.2⟩
              by_cases e : i = j
              · subst e; exact absurd g q.2
              · omega)
        refine ⟨m', g1, g2, eq_f hlt (eq_b e5 (eq_f o (eq_t (by show gA M 8 (nI (25 * b + (5 * a + j))).toNatClampNeg ≤ 0; rw [hci]; exact g) ?_)))⟩
        unfold fX12_roading_78
        rw [nI_1, Int32.or_zero]
        exact g3
      · have hb := or_bit m hm j (by omega)
        obtain ⟨m', g1, g2, g3⟩ := ih (j + 1) (m ||| 2 ^ j) (by omega) (by omega) hb.2.1 (fun i hi => by
          rw [Hs_or hm (by omega) hi, hH i hi]
          constructor
          · rintro ((q | q) | q)
            · exact Or.inl q
            · exact Or.inr ⟨by omega, q.2⟩
            · subst q; exact Or.inr ⟨by omega, g⟩
          · rintro (q | q)
            · exact Or.inl (Or.inl q)
            · by_cases e : i = j
              · exact Or.inr e
              · exact Or.inl (Or.inr ⟨by omega, q.2⟩))
        refine ⟨m', g1, g2, eq_f hlt (eq_b e5 (eq_f o (eq_f (by show ¬ gA M 8 (nI (25 * b + (5 * a + j))).toNatClampNeg ≤ 0; rw [hci]; exact g) ?_)))⟩
        unfold fX12_roading_78
        rw [nI_1, hb.1]
        exact g3
theorem one_bit : ∀ a, a < 5 → ((1 : Int32) <<< (nI a &&& 31)) = nI (2 ^ a) ∧ 2 ^ a < 32 ∧ ∀ i, i < 5 → ((((nI (2 ^ a) >>> (nI i &&& 31)) &&& (1 : Int32)) = (1 : Int32)) ↔ i = a) := by decide +kernel
theorem TownR.bumpR {q b nt nc nd nr C a c n : Nat} {MX MY : Mem} (h : TownR q b nt nc nd nr C MX MY) (hr : nr < 10) (ha : a < nc) (hc : c < nc) (hac : a ≠ c) (hn : 1 ≤ n ∧ n ≤ 30) (x1 : gA MX (q + 6) nr = nI a) (x2 : gA MX (q + 7) nr = nI c) (x3 : gA MX (q + 8) nr = nI n) : TownR q b nt nc nd (nr + 1) C (sI MX (128 * q + 8) (nI (nr + 1))) (sA (sA (sA MY 8 (25 * b + (5 * a + c)) (nI n)) 8 (25 * b + (5 * c + a)) (nI n)) 7 b (nI (nr + 1))) := by
  obtain ⟨⟨⟨a1, a2, a3⟩, ⟨a4, a5, a6⟩, ⟨a7, a8, a9⟩⟩, b1, b2, b3, ⟨c1, c2, c3⟩, ⟨p, p1, p2, p3⟩, d1, d2, d3⟩ := h
  have c5 := a6.1
  have yn : ∀ e, e ≠ 8 → e ≠ 7 → gA (sA (sA (sA MY 8 (25 * b + (5 * a + c)) (nI n)) 8 (25 * b + (5 * c + a)) (nI n)) 7 b (nI (nr + 1))) e = gA MY e := fun e h8 h7 => by rw [gA_sA_ne h7, gA_sA_ne h8, gA_sA_ne h8]
  refine ⟨⟨⟨?_, ?_, a3⟩, ⟨?_, ?_, a6⟩, ⟨?_, ?_, a9⟩⟩, ?_, ?_, ?_, ⟨gI_at, ?_, ⟨by omega, fun k hk => ?_, fun a' c' ha' hc' => ?_⟩⟩, ⟨p, p1, ?_, ?_⟩, ?_, ?_, d3⟩
  · rw [gI_ne (by omega)]; exact a1
  · rw [yn _ (by decide) (by decide)]; exact a2
  · rw [gI_ne (by omega)]; exact a4
  · rw [yn _ (by decide) (by decide)]; exact a5
  · rw [gI_ne (by omega)]; exact a7
  · rw [yn _ (by decide) (by decide)]; exact a8
  · intro i hi
    dsimp only
    rw [yn _ (by decide) (by decide), yn _ (by decide) (by decide)]
    exact b1 i hi
  · intro i hi
    dsimp only
    rw [yn _ (by decide) (by decide)]
    exact b2 i hi
  · intro i hi
    dsimp only
    rw [yn _ (by decide) (by decide), yn _ (by decide) (by decide)]
    exact b3 i hi
  · rw [gA_sA, if_pos rfl, if_pos rfl]
  · by_cases e : k = nr
    · subst e; exact ⟨a, c, n, ha, hc, hac, hn.1, hn.2, x1, x2, x3⟩
    · exact c3.2.1 k (by omega)
  · have y8 : gA (sA (sA (sA MY 8 (25 * b + (5 * a + c)) (nI n)) 8 (25 * b + (5 * c + a)) (nI n)) 7 b (nI (nr + 1))) 8 (25 * b + (5 * a' + c')) = if (a' = c ∧ c' = a) ∨ (a' = a ∧ c' = c) then nI n else gA MY 8 (25 * b + (5 * a' + c')) := by
      rw [gA_sA_ne (by decide), gA_sA, if_pos rfl, gA_sA, if_pos rfl]
      by_cases e1 : a' = c ∧ c' = a
      · rw [if_pos (by omega), if_pos (Or.inl e1)]
      · rw [if_neg (by omega)]
        by_cases e2 : a' = a ∧ c' = c
        · rw [if_pos (by omega), if_pos (Or.inr e2)]
        · rw [if_neg (by omega), if_neg (by omega)]
    dsimp only
    rw [y8]
    by_cases e : (a' = c ∧ c' = a) ∨ (a' = a ∧ c' = c)
    · rw [if_pos e]
      refine Or.inr ⟨nr, by omega, ?_, x3.symm⟩
      show (gA MX (q + 6) nr = _ ∧ gA MX (q + 7) nr = _) ∨ (gA MX (q + 6) nr = _ ∧ gA MX (q + 7) nr = _)
      rw [x1, x2]
      rcases e with ⟨rfl, rfl⟩ | ⟨rfl, rfl⟩
      · exact Or.inr ⟨rfl, rfl⟩
      · exact Or.inl ⟨rfl, rfl⟩
    · rw [if_neg e]
      rcases c3.2.2 a' c' ha' hc' with ⟨g1, g2⟩ | ⟨k, g1, g2, g3⟩
      · refine Or.inl ⟨g1, fun k hk g => ?_⟩
        by_cases ek : k = nr
        · subst ek
          have g' : (gA MX (q + 6) k = nI a' ∧ gA MX (q + 7) k = nI c') ∨ (gA MX (q + 6) k = nI c' ∧ gA MX (q + 7) k = nI a') := g
          rw [x1, x2, nI_eq (by omega) (by omega), nI_eq (by omega) (by omega), nI_eq (by omega) (by omega), nI_eq (by omega) (by omega)] at g'
          exact e (by omega)
        · exact g2 k (by omega) g
      · exact Or.inr ⟨k, by omega, g2, g3⟩
  · rw [gI_ne (by omega)]; exact p2
  · rw [yn _ (by decide) (by decide)]; exact p3
  · unfold FmR xlist ylist at d1 ⊢
    rw [gI_ne (by omega), yn _ (by decide) (by decide), yn _ (by decide) (by decide), yn _ (by decide) (by decide), yn _ (by decide) (by decide)]
    exact d1
  · unfold FmR xlist ylist at d2 ⊢
    rw [gI_ne (by omega), yn _ (by decide) (by decide), yn _ (by decide) (by decide), yn _ (by decide) (by decide), yn _ (by decide) (by decide)]
    exact d2
theorem xaddR {n0 q nr : Nat} {x1 x2 x3 : Int32} {M : Mem} (h : gI M (128 * q + 8) = nI nr) (ht : nr < 10) : fX9_addRoad n0 q x1 x2 x3 M = some (sI (sA (sA (sA M (q + 6) nr x1) (q + 7) nr x2) (q + 8) nr x3) (128 * q + 8) (nI (nr + 1))) := by
  have o : ¬ oob (gI M (128 * q + 8)) 10 := by rw [h]; exact nI_in ht (by decide)
  unfold fX9_addRoad
  refine eq_f (by rw [h]; exact nI_ge (b := 10) ht (by decide)) (eq_f o (eq_n (eq_f o (eq_n (eq_f o (eq_n ?_))))))
  simp only [gI_sA, h, nI_clamp (show nr < 2 ^ 31 by omega), nI_1]
theorem yRRF {n0 : Nat} {x1 x2 : Int32} {M : Mem} (h : ¬ gI M 8 ≤ 0) : yRR n0 x1 x2 M = some M := by
  unfold yRR
  exact eq_b (ykF h) (eq_b (ymustF h) (eq_b (ynumF h) (eq_f h rfl)))
theorem rod_eq {n0 : Nat} {u1 : Int32} {M : Mem} : fX12_roading_20 n0 u1 M = (fX12_counts n0 u1 M).bind fun z20 => if z20.1 = 0 then some z20.2 else (fX12_knownBut n0 (1 : Int32) (0 : Int32) z20.2).bind fun z30 => (fX12_must_ n0 (29807 : Int64) z30.2).bind fun z38 => loopN (bX12_roading_47 n0) (fun _ _ _ _ => none) n0 z30.1 ((1 : Int32) <<< (z30.1 &&& 31)) 0 z38 := rfl
theorem yRl {n0 b a : Nat} {M : Mem} (hn : 1601 ≤ n0) (hb : b ≤ 1) (ha : a < 5) (h34 : gI M 34 = nI b) : ∃ m', m' < 32 ∧ (∀ i, i < 5 → (Hs (nI m') i ↔ (i = a ∨ ¬ gA M 8 (25 * b + (5 * a + i)) ≤ 0))) ∧ loopN (bX12_roading_47 n0) (fun _ _ _ _ => none) n0 (nI a) ((1 : Int32) <<< (nI a &&& 31)) 0 M = yRR n0 (nI a) (nI m') M := by
  have h1 := one_bit a ha
  obtain ⟨m', g1, g2, g3⟩ := yRloop (n0 := n0) hb ha h34 n0 0 (2 ^ a) (by omega) (by omega) h1.2.1 (fun i hi => by
    constructor
    · intro g; exact Or.inl ((h1.2.2 i hi).mp g)
    · rintro (q | q)
      · exact (h1.2.2 i hi).mpr q
      · omega)
  refine ⟨m', g1, g2, ?_⟩
  rw [h1.1]
  exact g3
theorem roadS {n0 L s q b nt nc nd nr C : Nat} {MX MY : Mem} (hn : 1601 ≤ n0) (h : Rd L s q b nt nc nd nr C MX MY) (hk : gI MX 386 = 264) : StO L s q b MX MY (fX4_readStatement_171 n0 (bI (¬ nr = 10)) MX) (fX12_roading_20 n0 (bI (nr = 10)) MY) := by
  obtain ⟨hP, hA, hT, hC, hCs⟩ := h
  obtain ⟨f1, f2⟩ := fstP (n0 := n0) (full := nr = 10) hn hP (by rw [hk]; decide) (by rw [hk]; decide)
  rw [rod_eq]
  by_cases hf : nr = 10
  · obtain ⟨e1, e2⟩ := f1 hf
    refine Or.inr ⟨sI (sI MX 391 6) 392 (nI s), sI (sI MY 8 6) 9 (nI s), ?_, eq_b e2 (eq_t rfl rfl), Flt.mk (k := 6) (by decide) (by decide), FIf.q, FYf.b⟩
    unfold fX4_readStatement_171
    exact eq_b e1 (eq_t rfl rfl)
  obtain ⟨MX1, MY1, s1, ex1, ey1, hs1, hP1, fx1, fy1⟩ := f2 hf
  have q7 := hA.2.1
  have hb := hA.2.2.2
  have hA1 : At q b MX1 MY1 := hA.fr fx1.q fy1.b
  have hT1 : TownR q b nt nc nd nr C MX1 MY1 := hT.tok q7 fx1 fy1
  have c5 := hT1.1.2.1.2.2.1
  have hr10 : nr < 10 := by have := hT1.2.2.2.2.1.2.2.1; omega
  unfold fX4_readStatement_171 fX4_readRoad
  rcases corP (n0 := n0) 0 hn hP1 hA1 hT1.1 with ⟨MX2, MY2, ex2, ey2, hF, fx2, fy2⟩ | ⟨a, ha, ex2, -, hc4⟩
  · obtain ⟨m', -, -, el⟩ := yRl (n0 := n0) (a := 0) (M := MY2) hn hb (by decide) ((fy2.1 34 (by omega)).trans hA1.2.2.1)
    exact Or.inr ⟨MX2, MY2, eq_b ex1 (eq_f i10 (eq_b (eq_b ex2 (eq_t rfl rfl)) (eq_t rfl rfl))), eq_b ey1 (eq_f i10 (eq_b ey2 (eq_b (ymustF hF.pos) (el.trans (yRRF hF.pos))))), hF, fx1.q.tr fx2.q, fy1.b.tr fy2.b⟩
  have na1 : ¬ nI a = -1 := nI_m1 (by omega)
  obtain ⟨MX2, MY2, s2, ax2, ey2, hs2, hP2, fx2, fy2⟩ := hc4 (Hs0 (by omega))
  rcases skW (i := 5) (y := 29807) (kk := 265) hn (by decide) (by decide) (by decide) hP2 with ⟨MX3, MY3, s3, ex3, ey3, hs3, hP3, fx3, fy3⟩ | ⟨MX3, MY3, ex3, ey3, hF, fx3, fy3⟩
  rotate_left
  · obtain ⟨m', -, -, el⟩ := yRl (n0 := n0) (a := a) (M := MY3) hn hb (by omega) ((fy3.1 34 (by omega)).trans ((fy2.1 34 (by omega)).trans hA1.2.2.1))
    exact Or.inr ⟨MX3, MY3, eq_b ex1 (eq_f i10 (eq_b (eq_b ex2 (eq_f na1 (eq_b ax2 (eq_b ex3 (eq_t rfl rfl))))) (eq_t rfl rfl))), eq_b ey1 (eq_f i10 (eq_b ey2 (eq_b ey3 (el.trans (yRRF hF.pos))))), hF, (fx1.q.tr fx2.q).tr fx3.q, (fy1.b.tr fy2.b).tr fy3.b⟩
  have fx13 := fx2.tr fx3
  have fy13 := fy2.tr fy3
  have hA3 : At q b MX3 MY3 := hA1.fr fx13.q fy13.b
  have hT3 : TownR q b nt nc nd nr C MX3 MY3 := hT1.tok q7 fx13 fy13
  obtain ⟨m, hm, hH, el⟩ := yRl (n0 := n0) (a := a) (M := MY3) hn hb (by omega) hA3.2.2.1
  have yroad : ∀ r, yRR n0 (nI a) (nI m) MY3 = r → ((fX12_counts n0 (bI (nr = 10)) MY).bind fun z20 => if z20.1 = 0 then some z20.2 else (fX12_knownBut n0 (1 : Int32) (0 : Int32) z20.2).bind fun z30 => (fX12_must_ n0 (29807 : Int64) z30.2).bind fun z38 => loopN (bX12_roading_47 n0) (fun _ _ _ _ => none) n0 z30.1 ((1 : Int32) <<< (z30.1 &&& 31)) 0 z38) = r := fun r hr => eq_b ey1 (eq_f i10 (eq_b ey2 (eq_b ey3 (el.trans hr))))
  have yF : ∀ M, ¬ gI M 8 ≤ 0 → fX12_knownBut n0 1 (nI m) MY3 = some (0, M) → yRR n0 (nI a) (nI m) MY3 = some M := fun M h8 e => by
    unfold yRR
    exact eq_b e (eq_b (ymustF h8) (eq_b (ynumF h8) (eq_f h8 rfl)))
  rcases corP (n0 := n0) (nI m) hn hP3 hA3 hT3.1 with ⟨MX4, MY4, ex4, ey4, hF, fx4, fy4⟩ | ⟨c, hc, ex4, hc3, hc4⟩
  · exact Or.inr ⟨MX4, MY4, eq_b ex1 (eq_f i10 (eq_b (eq_b ex2 (eq_f na1 (eq_b ax2 (eq_b ex3 (eq_f i10 (eq_b ex4 (eq_t rfl rfl))))))) (eq_t rfl rfl))), yroad _ (yF MY4 hF.pos ey4), hF, (fx1.q.tr fx13.q).tr fx4.q, (fy1.b.tr fy13.b).tr fy4.b⟩
  have nc1 : ¬ nI c = -1 := nI_m1 (by omega)
  obtain ⟨r1, r2, rD⟩ := hT3.2.2.2.2.1
  -- is the road there already, or the corner the same
  have xF : ∀ Z, fX4_readRoad_63 n0 MX3 = Z → Z = some (0, sI (sI MX3 391 3) 392 (nI s3)) := fun Z hZ => by
    rw [← hZ]
    unfold fX4_readRoad_63
    rw [hP3.st]
    exact eq_b xfail (eq_t (Or.inl rfl) rfl)
  have r63 := xF _ rfl
  have hbad : ∀ (hx : (if nI c = nI a then fX4_readRoad_63 n0 MX3 else (fX9_hasRoad n0 (gR MX3 130) (nI a) (nI c) MX3).bind fun z57 => if z57.1 = 0 then (fX8_advance n0 z57.2).bind fun z83 => (fX8_skip n0 (266 : Int32) z83).bind fun z93 => if z93.1 = 0 then fX4_readRoad_110 n0 (nI a) (nI c) (-1 : Int32) z93.2 else (fX4_number n0 (1 : Int32) (30 : Int32) z93.2).bind fun z103 => fX4_readRoad_110 n0 (nI a) (nI c) z103.1 z103.2 else fX4_readRoad_63 n0 z57.2) = some (0, sI (sI MX3 391 3) 392 (nI s3))), Hs (nI m) c → StO L s q b MX MY ((fX4_skipFirst n0 (bI (¬ nr = 10)) MX).bind fun z171 => if z171.1 = 0 then some ((0 : Int32), z171.2) else ((fX4_cornerHere n0 z171.2).bind fun z1 => if z1.1 = (-1 : Int32) then some ((0 : Int32), z1.2) else (fX8_advance n0 z1.2).bind fun z16 => (fX8_skip n0 (265 : Int32) z16).bind fun z26 => if z26.1 = 0 then some ((0 : Int32), z26.2) else (fX4_cornerHere n0 z26.2).bind fun z35 => if z35.1 = (-1 : Int32) then some ((0 : Int32), z35.2) else if z35.1 = z1.1 then fX4_readRoad_63 n0 z35.2 else (fX9_hasRoad n0 (gR z35.2 130) z1.1 z35.1 z35.2).bind fun z57 => if z57.1 = 0 then (fX8_advance n0 z57.2).bind fun z83 => (fX8_skip n0 (266 : Int32) z83).bind fun z93 => if z93.1 = 0 then fX4_readRoad_110 n0 z1.1 z35.1 (-1 : Int32) z93.2 else (fX4_number n0 (1 : Int32) (30 : Int32) z93.2).bind fun z103 => fX4_readRoad_110 n0 z1.1 z35.1 z103.1 z103.2 else fX4_readRoad_63 n0 z57.2).bind fun z178 => if z178.1 = 0 then some ((0 : Int32), z178.2) else some ((1 : Int32), z178.2)) ((fX12_counts n0 (bI (nr = 10)) MY).bind fun z20 => if z20.1 = 0 then some z20.2 else (fX12_knownBut n0 (1 : Int32) (0 : Int32) z20.2).bind fun z30 => (fX12_must_ n0 (29807 : Int64) z30.2).bind fun z38 => loopN (bX12_roading_47 n0) (fun _ _ _ _ => none) n0 z30.1 ((1 : Int32) <<< (z30.1 &&& 31)) 0 z38) := by
    intro hx hh
    exact Or.inr ⟨sI (sI MX3 391 3) 392 (nI s3), sI (sI MY3 8 3) 9 (nI s3), eq_b ex1 (eq_f i10 (eq_b (eq_b ex2 (eq_f na1 (eq_b ax2 (eq_b ex3 (eq_f i10 (eq_b ex4 (eq_f nc1 hx))))))) (eq_t rfl rfl))), yroad _ (yF _ (n8f (k := 3) (by decide) (by decide)) (hc3 hh)), Flt.mk (k := 3) (by decide) (by decide), (fx1.q.tr fx13.q).tr FIf.q, (fy1.b.tr fy13.b).tr FYf.b⟩
  by_cases hac : c = a
  · exact hbad (eq_t (by rw [hac]) r63) ((hH c (by omega)).mpr (Or.inl hac))
  have nac : ¬ nI c = nI a := fun g => hac ((nI_eq (by omega) (by omega)).mp g)
  have hR := xroadL (n0 := n0) (q := q) (nr := nr) (a := a) (c := c) (M := MX3) rD.1 r1 n0 0 (by omega) (by omega) (fun k hk => by omega)
  rcases hR with ⟨e1, k, hk1, hk2⟩ | ⟨e1, hno⟩
  · have e1' : fX9_hasRoad n0 (gR MX3 130) (nI a) (nI c) MX3 = some (1, MX3) := by rw [hA3.1]; exact e1
    refine hbad (eq_f nac (eq_b e1' (eq_f i10 r63))) ((hH c (by omega)).mpr (Or.inr ?_))
    rcases rD.2.2 a c (by omega) (by omega) with ⟨_, g2⟩ | ⟨k', g1, g2, g3⟩
    · exact absurd hk2 (g2 k hk1)
    · obtain ⟨_, _, v, _, _, _, v1, v30, _, _, ev⟩ := rD.2.1 k' g1
      dsimp only at g3
      rw [g3, ev]
      exact nI_nle v1 (by omega)
  have e1' : fX9_hasRoad n0 (gR MX3 130) (nI a) (nI c) MX3 = some (0, MX3) := by rw [hA3.1]; exact e1
  have hsy : gA MY3 8 (25 * b + (5 * a + c)) = 0 := by
    rcases rD.2.2 a c (by omega) (by omega) with ⟨g1, _⟩ | ⟨k', g1, g2, _⟩
    · exact g1
    · exact absurd g2 (hno k' g1)
  obtain ⟨MX4, MY4, s4, ax4, ey4, hs4, hP4, fx4, fy4⟩ := hc4 (fun g => by
    rcases (hH c (by omega)).mp g with g | g
    · exact hac g
    · exact g (by rw [hsy]; exact i00))
  rcases skW (i := 6) (y := 495874044019) (kk := 266) hn (by decide) (by decide) (by decide) hP4 with ⟨MX5, MY5, s5, ex5, ey5, hs5, hP5, fx5, fy5⟩ | ⟨MX5, MY5, ex5, ey5, hF, fx5, fy5⟩
  rotate_left
  · refine Or.inr ⟨MX5, MY5, eq_b ex1 (eq_f i10 (eq_b (eq_b ex2 (eq_f na1 (eq_b ax2 (eq_b ex3 (eq_f i10 (eq_b ex4 (eq_f nc1 (eq_f nac (eq_b e1' (eq_t rfl (eq_b ax4 (eq_b ex5 (eq_t rfl (by unfold fX4_readRoad_110; exact eq_t rfl rfl)))))))))))))) (eq_t rfl rfl))), yroad _ ?_, hF, ((fx1.q.tr fx13.q).tr fx4.q).tr fx5.q, ((fy1.b.tr fy13.b).tr fy4.b).tr fy5.b⟩
    unfold yRR
    exact eq_b ey4 (eq_b ey5 (eq_b (ynumF hF.pos) (eq_f hF.pos rfl)))
  rcases numP (lo := 1) (hi := 30) hn hP5 with ⟨v, MX6, MY6, s6, hv, lo3, hi3, ex6, ey6, hs6, hP6, fx6, fy6⟩ | ⟨MX6, MY6, u, ex6, ey6, hF, fx6, fy6⟩
  rotate_left
  · refine Or.inr ⟨MX6, MY6, eq_b ex1 (eq_f i10 (eq_b (eq_b ex2 (eq_f na1 (eq_b ax2 (eq_b ex3 (eq_f i10 (eq_b ex4 (eq_f nc1 (eq_f nac (eq_b e1' (eq_t rfl (eq_b ax4 (eq_b ex5 (eq_f i10 (eq_b ex6 (by unfold fX4_readRoad_110; exact eq_t rfl rfl))))))))))))))) (eq_t rfl rfl))), yroad _ ?_, hF, (((fx1.q.tr fx13.q).tr fx4.q).tr fx5.q).tr fx6.q, (((fy1.b.tr fy13.b).tr fy4.b).tr fy5.b).tr fy6.b⟩
    unfold yRR
    exact eq_b ey4 (eq_b ey5 (eq_b ey6 (eq_f hF.pos rfl)))
  -- the statement is read
  have nv3 : ¬ nI v = -1 := nI_m1 (by omega)
  have fx36 : FI 386 392 MX3 MX6 := (fx4.tr fx5).tr fx6
  have fy36 : FrY MY3 MY6 := (fy4.tr fy5).tr fy6
  have hT6 : TownR q b nt nc nd nr C MX6 MY6 := hT3.tok q7 fx36 fy36
  have x130 : gR MX6 130 = q := by rw [fx36.R]; exact hA3.1
  have y34 : gI MY6 34 = nI b := (fy36.1 34 (by omega)).trans hA3.2.2.1
  have hT7 : TownR q b nt nc nd nr C (sA (sA (sA MX6 (q + 6) nr (nI a)) (q + 7) nr (nI c)) (q + 8) nr (nI v)) MY6 := by
    refine hT6.fine (fun j h1 h2 => rfl) (fun e i h1 h2 h3 => ?_) (fun _ _ _ _ _ => rfl) (fun _ _ _ _ => rfl)
    unfold frX at h3
    rw [gA_sA]
    by_cases e3 : e = q + 8
    · rw [if_pos e3, if_neg (by omega), gA_sA_ne (by omega), gA_sA_ne (by omega), e3]
    · rw [if_neg e3, gA_sA]
      by_cases e2 : e = q + 7
      · rw [if_pos e2, if_neg (by omega), gA_sA_ne (by omega), e2]
      · rw [if_neg e2, gA_sA]
        by_cases e1 : e = q + 6
        · rw [if_pos e1, if_neg (by omega), e1]
        · rw [if_neg e1]
  have hT8 := hT7.bumpR hr10 ha hc (fun g => hac g.symm) ⟨(nI_leI (a := 1) (b := v) (by decide) (by omega)).mp lo3, (nI_leI (a := v) (b := 30) (by omega) (by decide)).mp hi3⟩ (by rw [gA_sA_ne (by omega), gA_sA_ne (by omega), gA_sA, if_pos rfl, if_pos rfl]) (by rw [gA_sA_ne (by omega), gA_sA, if_pos rfl, if_pos rfl]) (by rw [gA_sA, if_pos rfl, if_pos rfl])
  have fyE : FY2 b MY (sA (sA (sA MY6 8 (25 * b + (5 * a + c)) (nI v)) 8 (25 * b + (5 * c + a)) (nI v)) 7 b (nI (nr + 1))) := ((((fy1.b.tr fy13.b).tr fy36.b).a (by unfold regA; omega)).a (by unfold regA; omega)).a (by unfold regA; omega)
  have fxE : FX2 q MX (sI (sA (sA (sA MX6 (q + 6) nr (nI a)) (q + 7) nr (nI c)) (q + 8) nr (nI v)) (128 * q + 8) (nI (nr + 1))) := (((((fx1.q.tr fx13.q).tr fx36.q).a (by omega)).a (by omega)).a (by omega)).i (by unfold rgX; omega)
  have hd : fX4_readRoad_110 n0 (nI a) (nI c) (nI v) MX6 = some (1, sI (sA (sA (sA MX6 (q + 6) nr (nI a)) (q + 7) nr (nI c)) (q + 8) nr (nI v)) (128 * q + 8) (nI (nr + 1))) := by
    unfold fX4_readRoad_110
    refine eq_f nv3 (eq_b ?_ rfl)
    show fX9_addRoad n0 (gR MX6 130) _ _ _ MX6 = _
    rw [x130]
    exact xaddR hT6.2.2.2.2.1.1 hr10
  refine Or.inl ⟨_, _, s6, nt, nc, nd, nr + 1, C, eq_b ex1 (eq_f i10 (eq_b (eq_b ex2 (eq_f na1 (eq_b ax2 (eq_b ex3 (eq_f i10 (eq_b ex4 (eq_f nc1 (eq_f nac (eq_b e1' (eq_t rfl (eq_b ax4 (eq_b ex5 (eq_f i10 (eq_b ex6 hd)))))))))))))) (eq_f i10 rfl))), yroad _ ?_, by omega, ⟨?_, hA.fr fxE fyE, hT8, ?_, by omega⟩, fxE, fyE⟩
  · unfold yRR
    have a1 : fX12_at n0 (gI MY6 34) (nI a) (nI c) MY6 = some (nI (25 * b + (5 * a + c)), MY6) := by rw [y34]; exact yat
    have a2 : fX12_at n0 (gI (sA MY6 8 (25 * b + (5 * a + c)) (nI v)) 34) (nI c) (nI a) (sA MY6 8 (25 * b + (5 * a + c)) (nI v)) = some (nI (25 * b + (5 * c + a)), sA MY6 8 (25 * b + (5 * a + c)) (nI v)) := by
      show fX12_at n0 (gI MY6 34) _ _ _ = _
      rw [y34]; exact yat
    have k1 : (nI (25 * b + (5 * a + c))).toNatClampNeg = 25 * b + (5 * a + c) := nI_clamp (by omega)
    have k2 : (nI (25 * b + (5 * c + a))).toNatClampNeg = 25 * b + (5 * c + a) := nI_clamp (by omega)
    have o34 : ¬ oob (gI MY6 34) 2 := by rw [y34]; exact nI_in (by omega) (by decide)
    refine eq_b ey4 (eq_b ey5 (eq_b ey6 (eq_t (by show gI MY6 8 ≤ 0; rw [hP6.f8]; exact i00) (eq_b a1 (eq_f (nI_in (by omega) (by decide)) (eq_n ?_))))))
    show (fX12_at n0 (gI (sA MY6 8 (nI (25 * b + (5 * a + c))).toNatClampNeg (nI v)) 34) (nI c) (nI a) (sA MY6 8 (nI (25 * b + (5 * a + c))).toNatClampNeg (nI v))).bind _ = _
    rw [k1]
    refine eq_b a2 (eq_f (nI_in (by omega) (by decide)) (eq_n (eq_f o34 (eq_f o34 ?_))))
    show some (sA (sA (sA MY6 8 (25 * b + (5 * a + c)) (nI v)) 8 (nI (25 * b + (5 * c + a))).toNatClampNeg (nI v)) 7 (gI MY6 34).toNatClampNeg (gA (sA (sA MY6 8 (25 * b + (5 * a + c)) (nI v)) 8 (nI (25 * b + (5 * c + a))).toNatClampNeg (nI v)) 7 (gI MY6 34).toNatClampNeg + 1)) = _
    rw [k2, y34, nI_clamp (by omega), gA_sA_ne (show (7 : Nat) ≠ 8 by decide), gA_sA_ne (show (7 : Nat) ≠ 8 by decide), hT6.2.2.2.2.1.2.1, nI_1]
  · refine hP6.cong (fun j h1 h2 => ?_) ?_ ?_ ?_ (fun j _ => rfl) rfl ?_
    · rw [gI_ne (by omega)]; rfl
    · rw [gI_ne (by omega)]; rfl
    · show gA (sA (sA (sA MX6 (q + 6) nr (nI a)) (q + 7) nr (nI c)) (q + 8) nr (nI v)) 4 = _
      rw [gA_sA_ne (by omega), gA_sA_ne (by omega), gA_sA_ne (by omega)]
    · show gA (sA (sA (sA MX6 (q + 6) nr (nI a)) (q + 7) nr (nI c)) (q + 8) nr (nI v)) 6 = _
      rw [gA_sA_ne (by omega), gA_sA_ne (by omega), gA_sA_ne (by omega)]
    · rw [gA_sA_ne (by decide), gA_sA_ne (by decide), gA_sA_ne (by decide)]
  · show gI MY6 33 = _
    rw [fy36.1 33 (by omega), fy13.1 33 (by omega), fy1.1 33 (by omega)]
    exact hC
end
