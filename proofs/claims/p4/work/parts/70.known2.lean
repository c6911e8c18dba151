/-! STEPS OF BOTH READERS: names that are known -/
def Hs (m : Int32) (i : Nat) : Prop := ((m >>> (nI i &&& 31)) &&& (1 : Int32)) = (1 : Int32)
theorem yhas {n0 i : Nat} {m : Int32} {M : Mem} (h : Hs m i) : fX12_has2 n0 m (nI i) M = some (1, M) := by
  unfold fX12_has2
  exact eq_t h rfl
theorem yhasN {n0 i : Nat} {m : Int32} {M : Mem} (h : ¬ Hs m i) : fX12_has2 n0 m (nI i) M = some (0, M) := by
  unfold fX12_has2
  exact eq_f h rfl
theorem yk91F {n0 : Nat} {x : Int32} {M : Mem} (h : ¬ gI M 8 ≤ 0) : fX12_knownBut_91 n0 x M = some (0, M) := by
  unfold fX12_knownBut_91 fX12_knownBut_102
  exact eq_f (pos_ne h) (eq_f h rfl)
theorem yk41F {n0 : Nat} {x y : Int32} {M : Mem} (h : ¬ gI M 8 ≤ 0) : fX12_knownBut_41 n0 x y M = some (0, M) := by
  unfold fX12_knownBut_41 fX12_knownBut_61
  exact eq_f h (eq_f (pos_ne h) (yk91F h))
theorem ykF {n0 : Nat} {x y : Int32} {M : Mem} (h : ¬ gI M 8 ≤ 0) : fX12_knownBut n0 x y M = some (0, M) := by
  unfold fX12_knownBut
  exact eq_b (ylexF h) (eq_f h rfl)
theorem ykA {n0 L s : Nat} {x y : Int32} {MX MY : Mem} (h : PR L s MX MY) (hk : ¬ gI MX 386 = 257) : fX12_knownBut n0 x y MY = some (0, sI (sI MY 8 1) 9 (gI MX 388)) := by
  have n1 : ¬ gI (sI (sI MY 8 1) 9 (gI MX 388)) 8 ≤ 0 := n8f (k := 1) (by decide) (by decide)
  unfold fX12_knownBut
  by_cases hb : gI MX 386 = 258
  · exact eq_b (ylexB h hb) (eq_f n1 rfl)
  · have e8 : gI MY 8 ≤ 0 := by rw [h.f8]; exact i00
    have tail : fX12_knownBut_32 n0 x y MY = some (0, sI (sI MY 8 1) 9 (gI MX 388)) := by
      unfold fX12_knownBut_32
      rw [h.at_, h.pl hb]
      rw [h.pl hb] at n1
      exact eq_b (yblame0 h.f8) (yk41F n1)
    refine eq_b (ylexG h hb) (eq_t e8 ?_)
    by_cases g : gI MY 3 = 1
    · rcases h.2.1.2.2.2.2.nn hb hk with q | q
      · exact absurd g q
      · exact eq_t g (eq_b (yOwn1 q) (eq_f i10 tail))
    · exact eq_f g tail
theorem yk_in {n0 L s : Nat} {x y r : Int32} {MX MY : Mem} (h : PR L s MX MY) (hk : gI MX 386 = 257) (hr : fX12_named n0 x (gL MY 7) MY = some (r, MY)) : fX12_knownBut n0 x y MY = fX12_knownBut_61 n0 y r MY := by
  have hb : ¬ gI MX 386 = 258 := by rw [hk]; decide
  obtain ⟨h3, v, w, hw, e2, e3, hno⟩ := h.2.1.2.2.2.2.nm hk
  have e8 : gI MY 8 ≤ 0 := by rw [h.f8]; exact i00
  unfold fX12_knownBut fX12_knownBut_41
  exact eq_b (ylexG h hb) (eq_t e8 (eq_t h3 (eq_b (yOwn0 hno) (eq_t rfl (eq_t e8 (eq_b hr rfl))))))
theorem yk82 {n0 L s : Nat} {x : Int32} {MX MY : Mem} (h : PR L s MX MY) : fX12_knownBut_82 n0 x MY = some (0, sI (sI MY 8 3) 9 (nI s)) := by
  unfold fX12_knownBut_82
  rw [h.at_]
  exact eq_b (yblame0 h.f8) (yk91F (n8f (k := 3) (by decide) (by decide)))
theorem yk61a {n0 L s : Nat} {y : Int32} {MX MY : Mem} (h : PR L s MX MY) : fX12_knownBut_61 n0 y (-1) MY = some (0, sI (sI MY 8 3) 9 (nI s)) := by
  unfold fX12_knownBut_61
  exact eq_t h.f8 (eq_t rfl (yk82 h))
theorem yk61b {n0 L s i : Nat} {y : Int32} {MX MY : Mem} (h : PR L s MX MY) (hi : i < 6) (hh : Hs y i) : fX12_knownBut_61 n0 y (nI i) MY = some (0, sI (sI MY 8 3) 9 (nI s)) := by
  unfold fX12_knownBut_61
  exact eq_t h.f8 (eq_f (nI_m1 (by omega)) (eq_b (yhas hh) (eq_f i10 (yk82 h))))
theorem yk61c {n0 L s i : Nat} {y : Int32} {MX MY MY' : Mem} (h : PR L s MX MY) (hi : i < 6) (hh : ¬ Hs y i) (ha : fX12_ahead n0 MY = some MY') (h8 : gI MY' 8 = 0) : fX12_knownBut_61 n0 y (nI i) MY = some (nI i, MY') := by
  unfold fX12_knownBut_61 fX12_knownBut_91 fX12_knownBut_102
  exact eq_t h.f8 (eq_f (nI_m1 (by omega)) (eq_b (yhasN hh) (eq_t rfl (eq_t h.f8 (eq_b ha (eq_t (by rw [h8]; exact i00) rfl))))))
/-- a corner that is known -/
theorem corP {n0 L s q b nt nc nd : Nat} {MX MY : Mem} (y : Int32) (hn : 1601 ≤ n0) (h : PR L s MX MY) (hA : At q b MX MY) (hN : NmR q b nt nc nd MX MY) :
    (∃ MX' MY', fX4_cornerHere n0 MX = some (-1, MX') ∧ fX12_knownBut n0 1 y MY = some (0, MY') ∧ Flt MX' MY' ∧ FI 386 392 MX MX' ∧ FrY MY MY') ∨
    (∃ i, i < nc ∧ fX4_cornerHere n0 MX = some (nI i, MX) ∧ (Hs y i → fX12_knownBut n0 1 y MY = some (0, sI (sI MY 8 3) 9 (nI s))) ∧ (¬ Hs y i → ∃ MX' MY' s', fX8_advance n0 MX = some MX' ∧ fX12_knownBut n0 1 y MY = some (nI i, MY') ∧ s < s' ∧ PR L s' MX' MY' ∧ FI 386 392 MX MX' ∧ FrY MY MY')) := by
  by_cases hk : gI MX 386 = 257
  · obtain ⟨h3, v, w, hw, e2, e3, hno⟩ := h.2.1.2.2.2.2.nm hk
    obtain ⟨r1, x1, y1, c1⟩ := find1 (n0 := n0) hn hA hN hw
    rw [← hA.1, ← e2] at x1
    rw [← e3] at y1
    have xf : fX8_fail n0 3 (gI MX 387) MX = some (0, sI (sI MX 391 3) 392 (nI s)) := by rw [h.st]; rfl
    have c5 := hN.2.1.2.2.1
    rcases c1 with ⟨g1, _⟩ | ⟨i, hi, g1⟩
    · subst g1
      refine Or.inl ⟨sI (sI MX 391 3) 392 (nI s), sI (sI MY 8 3) 9 (nI s), ?_, ?_, Flt.mk (k := 3) (by decide) (by decide), FIf, FYf⟩
      · unfold fX4_cornerHere
        exact eq_t hk (eq_b x1 (eq_t rfl (eq_b xf rfl)))
      · rw [yk_in h hk y1]
        exact yk61a h
    · subst g1
      refine Or.inr ⟨i, hi, ?_, fun hh => ?_, fun hh => ?_⟩
      · unfold fX4_cornerHere
        exact eq_t hk (eq_b x1 (eq_f (nI_m1 (by omega)) rfl))
      · rw [yk_in h hk y1]
        exact yk61b h (by omega) hh
      · obtain ⟨MX', MY', s', ax, ay, hs, hP, fx, fy⟩ := h.adv hn (h.2.1.2.2.2.2.lt (by rw [hk]; decide))
        refine ⟨MX', MY', s', ax, ?_, hs, hP, fx.wk (by decide) (by decide), fy.Y⟩
        rw [yk_in h hk y1]
        exact yk61c h (by omega) hh ay hP.f8
  · refine Or.inl ⟨sI (sI MX 391 1) 392 (gI MX 388), sI (sI MY 8 1) 9 (gI MX 388), ?_, ykA h hk, Flt.mk (k := 1) (by decide) (by decide), FIf, FYf⟩
    unfold fX4_cornerHere
    exact eq_f hk (eq_b xfailH rfl)
theorem Hs0 {i : Nat} (hi : i < 6) : ¬ Hs 0 i := by
  have h : ∀ i, i < 6 → ¬ ((((0 : Int32) >>> (nI i &&& 31)) &&& (1 : Int32)) = (1 : Int32)) := by decide +kernel
  exact h i hi
/-- a thing that is known, as the class's readPalm does it -/
theorem thgP {n0 L s q b nt nc nd : Nat} {MX MY : Mem} (hn : 1601 ≤ n0) (h : PR L s MX MY) (hA : At q b MX MY) (hN : NmR q b nt nc nd MX MY) :
    (¬ gI MX 386 = 257 ∧ fX12_knownBut n0 0 0 MY = some (0, sI (sI MY 8 1) 9 (gI MX 388))) ∨
    (gI MX 386 = 257 ∧ fX9_findThing n0 (gR MX 130) (gI MX 389) MX = some (-1, MX) ∧ fX12_knownBut n0 0 0 MY = some (0, sI (sI MY 8 3) 9 (nI s))) ∨
    (gI MX 386 = 257 ∧ ∃ i, i < nt ∧ fX9_findThing n0 (gR MX 130) (gI MX 389) MX = some (nI i, MX) ∧ ∃ MX' MY' s', fX8_advance n0 MX = some MX' ∧ fX12_knownBut n0 0 0 MY = some (nI i, MY') ∧ s < s' ∧ PR L s' MX' MY' ∧ FI 386 392 MX MX' ∧ FrY MY MY') := by
  by_cases hk : gI MX 386 = 257
  · obtain ⟨h3, v, w, hw, e2, e3, hno⟩ := h.2.1.2.2.2.2.nm hk
    obtain ⟨r1, x1, y1, c1⟩ := find0 (n0 := n0) hn hA hN hw
    rw [← hA.1, ← e2] at x1
    rw [← e3] at y1
    have c5 := hN.1.2.2.1
    rcases c1 with ⟨g1, _⟩ | ⟨i, hi, g1⟩
    · subst g1
      refine Or.inr (Or.inl ⟨hk, x1, ?_⟩)
      rw [yk_in h hk y1]
      exact yk61a h
    · subst g1
      obtain ⟨MX', MY', s', ax, ay, hs, hP, fx, fy⟩ := h.adv hn (h.2.1.2.2.2.2.lt (by rw [hk]; decide))
      refine Or.inr (Or.inr ⟨hk, i, hi, x1, MX', MY', s', ax, ?_, hs, hP, fx.wk (by decide) (by decide), fy.Y⟩)
      rw [yk_in h hk y1]
      exact yk61c h (by omega) (Hs0 (by omega)) ay hP.f8
  · exact Or.inl ⟨hk, ykA h hk⟩
/-- the first word of a statement -/
theorem fstP {n0 L s : Nat} {full : Prop} [Decidable full] {MX MY : Mem} (hn : 1601 ≤ n0) (h : PR L s MX MY) (hb : ¬ gI MX 386 = 259) (hb2 : ¬ gI MX 386 = 258) :
    (full → fX4_skipFirst n0 (bI (¬ full)) MX = some (0, sI (sI MX 391 6) 392 (nI s)) ∧ fX12_counts n0 (bI full) MY = some (0, sI (sI MY 8 6) 9 (nI s))) ∧
    (¬ full → ∃ MX' MY' s', fX4_skipFirst n0 (bI (¬ full)) MX = some (1, MX') ∧ fX12_counts n0 (bI full) MY = some (1, MY') ∧ s < s' ∧ PR L s' MX' MY' ∧ FI 386 392 MX MX' ∧ FrY MY MY') := by
  constructor
  · intro hf
    constructor
    · unfold fX4_skipFirst
      rw [h.st]
      exact eq_t (bI_f (fun g => g hf)) (eq_b xfail (eq_t (Or.inl rfl) rfl))
    · have n6 : ¬ gI (sI (sI MY 8 6) 9 (nI s)) 8 = 0 := pos_ne (n8f (k := 6) (by decide) (by decide))
      unfold fX12_counts fX12_counts_21 fX12_counts_32
      rw [h.at_]
      exact eq_t h.f8 (eq_f (bz hf) (eq_b (yblame0 h.f8) (eq_f n6 (eq_f n6 rfl))))
  · intro hf
    obtain ⟨MX', MY', s', ax, ay, hs, hP, fx, fy⟩ := h.adv hn (h.2.1.2.2.2.2.lt hb)
    refine ⟨MX', MY', s', ?_, ?_, hs, hP, fx.wk (by decide) (by decide), fy.Y⟩
    · unfold fX4_skipFirst
      exact eq_f (bz hf) (eq_b ax rfl)
    · unfold fX12_counts fX12_counts_21 fX12_counts_32
      exact eq_t h.f8 (eq_t (bI_f hf) (eq_t h.f8 (eq_b ay (eq_t hP.f8 rfl))))
