/-! A LAYER COPIED BY THE REFERENCE -/
theorem y80Ix (v c : Nat) : (80 : Int32) * nI v + nI c = nI (80 * v + c) := by
  rw [show (80 : Int32) = nI 80 from rfl, nI_mul, nI_add]
abbrev cpL (n0 : Nat) : Nat → Int32 → Int32 → Int32 → Mem → Option Mem := loopN (bX12_copies_91 n0) (fun _ _ _ _ => none)
theorem ycp91 {n0 v u kn : Nat} (hv : v < 22) (hu : u < 22) (hvu : v ≠ u) (hk : kn ≤ 40) : ∀ w i M, i ≤ 2 * kn → 2 * kn < w + i → gA M 32 u = nI kn → ∃ M', cpL n0 w (nI v) (nI u) (nI i) M = some M' ∧ (∀ j, i ≤ j → j < 2 * kn → gA M' 33 (80 * v + j) = gA M 33 (80 * u + j)) ∧ YF (fun a j => a = 33 ∧ 80 * v + i ≤ j ∧ j < 80 * v + 80) M M'
  | 0, i, M, hi, hw, _ => by omega
  | w + 1, i, M, hi, hw, h32 => by
    show ∃ M', bX12_copies_91 n0 (cpL n0 w) (nI v) (nI u) (nI i) M = _ ∧ _
    have cu : (nI u).toNatClampNeg = u := nI_clamp (by omega)
    have ou : ¬ oob (nI u) 22 := nI_in hu (by decide)
    have e2 : (2 : Int32) * gA M 32 (nI u).toNatClampNeg = nI (2 * kn) := by rw [cu, h32, show (2 : Int32) = nI 2 from rfl, nI_mul]
    by_cases g : i = 2 * kn
    · refine ⟨M, ?_, fun j h1 h2 => by omega, YF.r⟩
      unfold bX12_copies_91
      exact eq_f ou (eq_t (by rw [e2, g]; exact Int32.le_refl _) rfl)
    · have ca : (nI (80 * u + i)).toNatClampNeg = 80 * u + i := nI_clamp (by omega)
      have cb : (nI (80 * v + i)).toNatClampNeg = 80 * v + i := nI_clamp (by omega)
      have f1 : YF (fun a j => a = 33 ∧ 80 * v + i ≤ j ∧ j < 80 * v + 80) M (sA M 33 (80 * v + i) (gA M 33 (80 * u + i))) := YF.r.a ⟨rfl, by omega, by omega⟩
      obtain ⟨M', r1, r2, r3⟩ := ycp91 hv hu hvu hk w (i + 1) (sA M 33 (80 * v + i) (gA M 33 (80 * u + i))) (by omega) (by omega) (by rw [gA_sA_ne (by decide)]; exact h32)
      refine ⟨M', ?_, fun j h1 h2 => ?_, f1.tr (r3.wk (fun a j z => ⟨z.1, by omega, z.2.2⟩))⟩
      · unfold bX12_copies_91
        refine eq_f ou (eq_f (by rw [e2]; exact nI_ge (by omega) (by omega)) ?_)
        simp only [y80Ix, ca, cb]
        refine eq_f (nI_in (by omega) (by decide)) (eq_f (nI_in (by omega) (by decide)) (eq_n ?_))
        rw [show nI i + 1 = nI (i + 1) from nI_add i 1]
        exact r1
      · by_cases h : j = i
        · rw [h, r3.2.2.2.1 33 (80 * v + i) (by decide) (fun z => by have := z.2.1; omega), gA_sA, if_pos rfl, if_pos rfl]
        · rw [r2 j (by omega) h2, gA_sA, if_pos rfl, if_neg (by omega)]
abbrev cqL (n0 : Nat) : Nat → Int32 → Int32 → Int32 → Mem → Option Mem := loopN (bX12_copies_26 n0) (fun _ _ _ _ => none)
theorem ycp26 {n0 v u kn : Nat} (hn : 1700 ≤ n0) (hv : v < 22) (hu : u < 22) (hvu : v ≠ u) (hk : kn ≤ 40) : ∀ w i M, i ≤ 5 → 5 < w + i → gA M 32 u = nI kn → ∃ M', cqL n0 w (nI v) (nI u) (nI i) M = some M' ∧ (∀ j, i ≤ j → j < 5 → gA M' 29 (5 * v + j) = gA M 29 (5 * u + j) ∧ gA M' 30 (5 * v + j) = gA M 30 (5 * u + j)) ∧ gA M' 32 v = nI kn ∧ (∀ j, j < 2 * kn → gA M' 33 (80 * v + j) = gA M 33 (80 * u + j)) ∧ YF (fun a j => ((a = 29 ∨ a = 30) ∧ 5 * v + i ≤ j ∧ j < 5 * v + 5) ∨ (a = 32 ∧ j = v) ∨ (a = 33 ∧ 80 * v ≤ j ∧ j < 80 * v + 80)) M M'
  | 0, i, M, hi, hw, _ => by omega
  | w + 1, i, M, hi, hw, h32 => by
    show ∃ M', bX12_copies_26 n0 (cqL n0 w) (nI v) (nI u) (nI i) M = _ ∧ _
    have cu : (nI u).toNatClampNeg = u := nI_clamp (by omega)
    have cv : (nI v).toNatClampNeg = v := nI_clamp (by omega)
    by_cases g : i = 5
    · obtain ⟨M', r1, r2, r3⟩ := ycp91 (n0 := n0) hv hu hvu hk n0 0 (sA M 32 v (nI kn)) (by omega) (by omega) (by rw [gA_sA, if_pos rfl, if_neg (fun z => hvu z.symm)]; exact h32)
      refine ⟨M', ?_, fun j h1 h2 => by omega, ?_, fun j hj => ?_, (YF.r.a (Or.inr (Or.inl ⟨rfl, rfl⟩))).tr (r3.wk (fun a j z => Or.inr (Or.inr ⟨z.1, by omega, z.2.2⟩)))⟩
      · unfold bX12_copies_26
        refine eq_t (by rw [g]; decide) ?_
        simp only [cu, cv, h32]
        exact eq_f (nI_in hu (by decide)) (eq_f (nI_in hv (by decide)) (eq_n r1))
      · rw [r3.2.2.2.1 32 v (by decide) (fun z => by have := z.1; omega), gA_sA, if_pos rfl, if_pos rfl]
      · rw [r2 j (by omega) hj, gA_sA_ne (by decide)]
    · have ca : (nI (5 * u + i)).toNatClampNeg = 5 * u + i := nI_clamp (by omega)
      have cb : (nI (5 * v + i)).toNatClampNeg = 5 * v + i := nI_clamp (by omega)
      have oa : ¬ oob (nI (5 * u + i)) 110 := nI_in (by omega) (by decide)
      have ob : ¬ oob (nI (5 * v + i)) 110 := nI_in (by omega) (by decide)
      have hM1 : ∃ M1, M1 = sA (sA M 29 (5 * v + i) (gA M 29 (5 * u + i))) 30 (5 * v + i) (gA M 30 (5 * u + i)) := ⟨_, rfl⟩
      obtain ⟨M1, eM⟩ := hM1
      have f1 : YF (fun a j => ((a = 29 ∨ a = 30) ∧ 5 * v + i ≤ j ∧ j < 5 * v + 5) ∨ (a = 32 ∧ j = v) ∨ (a = 33 ∧ 80 * v ≤ j ∧ j < 80 * v + 80)) M M1 := by
        rw [eM]
        exact (YF.r.a (Or.inl ⟨Or.inl rfl, by omega, by omega⟩)).a (Or.inl ⟨Or.inr rfl, by omega, by omega⟩)
      obtain ⟨M', r1, r2, r3, r4, r5⟩ := ycp26 hn hv hu hvu hk w (i + 1) M1 (by omega) (by omega) (by rw [eM, gA_sA_ne (by decide), gA_sA_ne (by decide)]; exact h32)
      refine ⟨M', ?_, fun j h1 h2 => ?_, r3, fun j hj => ?_, f1.tr (r5.wk (fun a j z => by omega))⟩
      · unfold bX12_copies_26
        refine eq_f (fun z => by have := (nI_leI (a := 5) (b := i) (by decide) (by omega)).mp z; omega) ?_
        simp only [yIx, ca, cb]
        refine eq_f oa (eq_f ob (eq_n (eq_f oa (eq_f ob (eq_e (v' := M1) (by rw [eM, gA_sA_ne (by decide)]) ?_)))))
        rw [show nI i + 1 = nI (i + 1) from nI_add i 1]
        exact r1
      · by_cases h : j = i
        · rw [h, r5.2.2.2.1 29 (5 * v + i) (by decide) (fun z => by omega), r5.2.2.2.1 30 (5 * v + i) (by decide) (fun z => by omega), eM]
          exact ⟨by rw [gA_sA_ne (by decide), gA_sA, if_pos rfl, if_pos rfl], by rw [gA_sA, if_pos rfl, if_pos rfl]⟩
        · obtain ⟨k1, k2⟩ := r2 j (by omega) h2
          rw [k1, k2, eM]
          exact ⟨by rw [gA_sA_ne (by decide), gA_sA, if_pos rfl, if_neg (by omega)], by rw [gA_sA, if_pos rfl, if_neg (by omega), gA_sA_ne (by decide)]⟩
      · rw [r4 j hj, eM, gA_sA_ne (by decide), gA_sA_ne (by decide)]
theorem ycopy {n0 v u kn : Nat} {M : Mem} (hn : 1700 ≤ n0) (hv : v < 22) (hu : u < 22) (hvu : v ≠ u) (hk : kn ≤ 40) (h32 : gA M 32 u = nI kn) : ∃ M', fX12_copies n0 (nI v) (nI u) M = some M' ∧ gA M' 28 v = gA M 28 u ∧ gA M' 31 v = gA M 31 u ∧ (∀ j, j < 5 → gA M' 29 (5 * v + j) = gA M 29 (5 * u + j) ∧ gA M' 30 (5 * v + j) = gA M 30 (5 * u + j)) ∧ gA M' 32 v = nI kn ∧ (∀ j, j < 2 * kn → gA M' 33 (80 * v + j) = gA M 33 (80 * u + j)) ∧ YF (lP v) M M' := by
  have cu : (nI u).toNatClampNeg = u := nI_clamp (by omega)
  have cv : (nI v).toNatClampNeg = v := nI_clamp (by omega)
  have ou : ¬ oob (nI u) 22 := nI_in hu (by decide)
  have ov : ¬ oob (nI v) 22 := nI_in hv (by decide)
  have hM1 : ∃ M1, M1 = sA (sA M 28 v (gA M 28 u)) 31 v (gA M 31 u) := ⟨_, rfl⟩
  obtain ⟨M1, eM⟩ := hM1
  have f1 : YF (lP v) M M1 := by
    rw [eM]
    exact (YF.r.a (by unfold lP tP dP; omega)).a (by unfold lP tP dP; omega)
  obtain ⟨M', r1, r2, r3, r4, r5⟩ := ycp26 (n0 := n0) hn hv hu hvu hk n0 0 M1 (by omega) (by omega) (by rw [eM, gA_sA_ne (by decide), gA_sA_ne (by decide)]; exact h32)
  refine ⟨M', ?_, ?_, ?_, fun j hj => ?_, r3, fun j hj => ?_, f1.tr (r5.wk (fun a j z => by unfold lP tP dP; omega))⟩
  · unfold fX12_copies
    simp only [cu, cv]
    exact eq_f ou (eq_f ov (eq_n (eq_f ou (eq_f ov (eq_e (v' := M1) (by rw [eM, gA_sA_ne (by decide)]) r1)))))
  · rw [r5.2.2.2.1 28 v (by decide) (fun z => by omega), eM, gA_sA_ne (by decide), gA_sA, if_pos rfl, if_pos rfl]
  · rw [r5.2.2.2.1 31 v (by decide) (fun z => by omega), eM, gA_sA, if_pos rfl, if_pos rfl]
  · obtain ⟨k1, k2⟩ := r2 j (by omega) hj
    rw [k1, k2, eM, gA_sA_ne (by decide), gA_sA_ne (by decide), gA_sA_ne (by decide), gA_sA_ne (by decide)]
    exact ⟨rfl, rfl⟩
  · rw [r4 j hj, eM, gA_sA_ne (by decide), gA_sA_ne (by decide)]
/-- the whole of a layer: minute, palms, bits, kept -/
def LyD (v nc m : Nat) (pm : Nat → Int32 × Nat) (s : Nat × List (Nat × Nat)) (M : Mem) : Prop := Ly v nc m pm M ∧ gA M 31 v = nI s.1 ∧ KpY v s.2 M
theorem ycopyD {n0 v u nc m : Nat} {pm : Nat → Int32 × Nat} {s : Nat × List (Nat × Nat)} {M : Mem} (hn : 1700 ≤ n0) (hv : v < 22) (hu : u < 22) (hvu : v ≠ u) (hc : nc ≤ 5) (hk : s.2.length ≤ 6) (h : LyD u nc m pm s M) : ∃ M', fX12_copies n0 (nI v) (nI u) M = some M' ∧ LyD v nc m pm s M' ∧ YF (lP v) M M' := by
  obtain ⟨M', r1, r2, r3, r4, r5, r6, r7⟩ := ycopy (n0 := n0) (kn := s.2.length) hn hv hu hvu (by omega) h.2.2.1
  refine ⟨M', r1, ⟨⟨r2.trans h.1.1, fun c hc2 => ?_⟩, r3.trans h.2.1, r5, fun i p hp => ?_⟩, r7⟩
  · rw [(r4 c (by omega)).1, (r4 c (by omega)).2]
    exact h.1.2 c hc2
  · have := K_lt hp
    rw [r6 (2 * i) (by omega), Nat.add_assoc, r6 (2 * i + 1) (by omega), ← Nat.add_assoc]
    exact h.2.2.2 i p hp
theorem LyD.fr {v nc m : Nat} {pm : Nat → Int32 × Nat} {s : Nat × List (Nat × Nat)} {P : Nat → Nat → Prop} {M M' : Mem} (h : LyD v nc m pm s M) (f : YF P M M') (hc : nc ≤ 5) (hk : s.2.length ≤ 40) (hP : ∀ a i, P a i → ¬ lP v a i) : LyD v nc m pm s M' :=
  ⟨h.1.fr f hc (fun a i z y => hP a i z (Or.inl y)), (f.2.2.2.1 31 v (by decide) (fun z => hP _ _ z (by unfold lP dP; omega))).trans h.2.1, h.2.2.fr f hk (fun a i z y => hP a i z (Or.inr y))⟩
/-- a minute of a layer, doings and all -/
def nxP (T : TP) (m : Nat) (pm : Nat → Int32 × Nat) : Nat → Int32 × Nat := fun j => tk T.gF j (m + 1) (pm j)
def nxS (T : TP) (m : Nat) (pm : Nat → Int32 × Nat) (s : Nat × List (Nat × Nat)) : Nat × List (Nat × Nat) := fnS (due T (nxP T m pm) (m + 1)) (m + 1) s T.nd
theorem nxP_ok {T : TP} {m : Nat} {pm : Nat → Int32 × Nat} (h : PsO T.nt T.nc pm) : PsO T.nt T.nc (nxP T m pm) := fun c hc => tk_ok (h c hc)
theorem sOk.l {nd : Nat} {s : Nat × List (Nat × Nat)} (h : sOk nd s) : s.2.length ≤ 6 := Nat.le_trans h.2 (pc_le _)
theorem ytickD {n0 b v m : Nat} {T : TP} {pm : Nat → Int32 × Nat} {s : Nat × List (Nat × Nat)} {M : Mem} (hn : 1700 ≤ n0) (hT : YT n0 b T M) (hv : v < 22) (h : LyD v T.nc m pm s M) (hO : PsO T.nt T.nc pm) (hs : sOk T.nd s) (hm : m < 20000) : ∃ M', fX12_ticks n0 (nI v) M = some M' ∧ LyD v T.nc (m + 1) (nxP T m pm) s M' ∧ YF (lP v) M M' := by
  obtain ⟨M', e1, e2, e3⟩ := yticks hn hT hv h.1 hO hm
  have hl := hs.l
  exact ⟨M', e1, ⟨e2, (e3.2.2.2.1 31 v (by decide) (fun z => by unfold tP at z; omega)).trans h.2.1, h.2.2.fr e3 (by omega) (fun a i z y => by unfold tP at z; unfold dP at y; omega)⟩, e3.wk (fun a i z => Or.inl z)⟩
theorem yfinD {n0 b v m : Nat} {T : TP} {pm : Nat → Int32 × Nat} {s : Nat × List (Nat × Nat)} {M : Mem} (hn : 1700 ≤ n0) (hT : YT n0 b T M) (hv : v < 22) (h : LyD v T.nc m pm s M) (hO : PsO T.nt T.nc pm) (hs : sOk T.nd s) (hm : m ≤ 20000) : ∃ M', fX12_finishesDoings n0 (nI v) M = some (nI ((fnS (due T pm m) m s T.nd).2.length - s.2.length), M') ∧ LyD v T.nc m pm (fnS (due T pm m) m s T.nd) M' ∧ YF (lP v) M M' := by
  obtain ⟨M', e1, e2, e3, e4⟩ := yfin hn hT hv h.1 hO hm hs h.2.1 h.2.2
  exact ⟨M', e1, ⟨h.1.fr e4 hT.2.1.2.1 (fun a i z y => by unfold dP at z; unfold tP at y; omega), e2, e3⟩, e4.wk (fun a i z => Or.inr z)⟩
theorem ypassD {n0 b v m : Nat} {T : TP} {pm : Nat → Int32 × Nat} {s : Nat × List (Nat × Nat)} {M : Mem} (hn : 1700 ≤ n0) (hT : YT n0 b T M) (hv : v < 22) (h : LyD v T.nc m pm s M) (hO : PsO T.nt T.nc pm) (hs : sOk T.nd s) (hm : m < 20000) : ∃ M', fX12_passes n0 (nI v) M = some (nI ((nxS T m pm s).2.length - s.2.length), M') ∧ LyD v T.nc (m + 1) (nxP T m pm) (nxS T m pm s) M' ∧ sOk T.nd (nxS T m pm s) ∧ YF (lP v) M M' := by
  obtain ⟨M1, e1, e2, e3⟩ := ytickD hn hT hv h hO hs hm
  obtain ⟨M2, g1, g2, g3⟩ := yfinD hn (hT.yf e3 lP28) hv e2 (nxP_ok hO) hs (by omega)
  refine ⟨M2, ?_, g2, fnS_ok hT.2.1.2.2.1 hs _ (Nat.le_refl _), e3.tr g3⟩
  unfold fX12_passes
  exact eq_b e1 (eq_b g1 rfl)
