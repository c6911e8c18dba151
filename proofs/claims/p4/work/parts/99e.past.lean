/-! THE PAST: an act is remembered, and undone -/
theorem ln63 : ∀ j, j < 20 → LX.ln (63 + j) = 18 := by decide +kernel
def XP (p : Nat) (M M' : Mem) : Prop := gR M' = gR M ∧ gL M' = gL M ∧ gB M' = gB M ∧ (∀ k, ¬ (k = 2049 ∨ k = 2050) → gI M' k = gI M k) ∧ ∀ a, ¬ a = p → gA M' a = gA M a
theorem xsave {n0 p : Nat} {M : Mem} (hl : LX.ln p = 18) (hp : 63 ≤ p) : ∃ M', fX6_save n0 p M = some M' ∧ gA M' p 0 = gI M 1281 ∧ gA M' p 1 = gI M 1285 ∧ (∀ c, c < 5 → gA M' p (2 + c) = gA M 11 c ∧ gA M' p (7 + c) = gA M 12 c) ∧ (∀ d, d < 6 → gA M' p (12 + d) = gA M 13 d) ∧ gI M' = gI M ∧ gR M' = gR M ∧ gL M' = gL M ∧ gB M' = gB M ∧ ∀ a, ¬ a = p → gA M' a = gA M a := by
  have n11 : ¬ 11 = p := by omega
  have n12 : ¬ 12 = p := by omega
  have n13 : ¬ 13 = p := by omega
  have hM2 : ∃ M2, M2 = sA (sA M p 0 (gI M 1281)) p 1 (gI M 1285) := ⟨_, rfl⟩
  obtain ⟨M2, e2⟩ := hM2
  have v0 : gA M2 p 0 = gI M 1281 := by rw [e2, gA_sA, if_pos rfl, if_neg (by decide), gA_sA, if_pos rfl, if_pos rfl]
  have v1 : gA M2 p 1 = gI M 1285 := by rw [e2, gA_sA, if_pos rfl, if_pos rfl]
  have vo : ∀ a, ¬ a = p → gA M2 a = gA M a := fun a z => by rw [e2, gA_sA_ne z, gA_sA_ne z]
  have so : ∀ (N : Mem) (f : Nat → Int32) (a : Nat), ¬ a = p → gA (sF N p f) a = gA N a := fun N f a z => by
    funext j
    rw [gA_sF, if_neg z]
  have sp : ∀ (N : Mem) (f : Nat → Int32), gA (sF N p f) p = f := fun N f => by
    funext j
    rw [gA_sF, if_pos rfl]
  have hM3 : ∃ M3, M3 = sF M2 p (va_cpy (gA M2 11) (gA M2 p) 0 2 5) := ⟨_, rfl⟩
  obtain ⟨M3, e3⟩ := hM3
  have hM4 : ∃ M4, M4 = sF M3 p (va_cpy (gA M3 12) (gA M3 p) 0 7 5) := ⟨_, rfl⟩
  obtain ⟨M4, e4⟩ := hM4
  have hM5 : ∃ M5, M5 = sF M4 p (va_cpy (gA M4 13) (gA M4 p) 0 12 6) := ⟨_, rfl⟩
  obtain ⟨M5, e5⟩ := hM5
  have o3 : ∀ a, ¬ a = p → gA M3 a = gA M a := fun a z => by rw [e3, so _ _ a z, vo a z]
  have o4 : ∀ a, ¬ a = p → gA M4 a = gA M a := fun a z => by rw [e4, so _ _ a z, o3 a z]
  have o5 : ∀ a, ¬ a = p → gA M5 a = gA M a := fun a z => by rw [e5, so _ _ a z, o4 a z]
  have p3 : gA M3 p = va_cpy (gA M 11) (gA M2 p) 0 2 5 := by rw [e3, sp, vo 11 n11]
  have p4 : gA M4 p = va_cpy (gA M 12) (gA M3 p) 0 7 5 := by rw [e4, sp, o3 12 n12]
  have p5 : gA M5 p = va_cpy (gA M 13) (gA M4 p) 0 12 6 := by rw [e5, sp, o4 13 n13]
  refine ⟨M5, ?_, ?_, ?_, fun c hc => ⟨?_, ?_⟩, fun d hd => ?_, ?_, ?_, ?_, ?_, o5⟩
  · unfold fX6_save
    refine eq_t (by rw [hl]; decide) (eq_f (by rw [hl]; decide) (eq_n (eq_f (by rw [hl]; decide) (eq_e (v' := M2) (by rw [e2]; rfl) (eq_f (by rw [hl]; decide) (eq_e (v' := M3) (by rw [e3]; rfl) (eq_f (by rw [hl]; decide) (eq_e (v' := M4) (by rw [e4]; rfl) (eq_f (by rw [hl]; decide) ?_)))))))))
    rw [e5]
    rfl
  · rw [p5]; unfold va_cpy; rw [if_neg (by omega), p4]; unfold va_cpy; rw [if_neg (by omega), p3]; unfold va_cpy; rw [if_neg (by omega)]; exact v0
  · rw [p5]; unfold va_cpy; rw [if_neg (by omega), p4]; unfold va_cpy; rw [if_neg (by omega), p3]; unfold va_cpy; rw [if_neg (by omega)]; exact v1
  · rw [p5]; unfold va_cpy; rw [if_neg (by omega), p4]; unfold va_cpy; rw [if_neg (by omega), p3]; unfold va_cpy; rw [if_pos (by omega)]; congr 1; omega
  · rw [p5]; unfold va_cpy; rw [if_neg (by omega), p4]; unfold va_cpy; rw [if_pos (by omega)]; congr 1; omega
  · rw [p5]; unfold va_cpy; rw [if_pos (by omega)]; congr 1; omega
  · rw [e5, e4, e3, e2]; rfl
  · rw [e5, e4, e3, e2]; rfl
  · rw [e5, e4, e3, e2]; rfl
  · rw [e5, e4, e3, e2]; rfl
theorem xrem {n0 q m nx u : Nat} {T : TP} {pm : Nat → Int32 × Nat} {s : Nat × List (Nat × Nat)} {M : Mem} (hok : T.ok) (hS : SX q T.nc T.nd m pm s M) (hnx : nx < 20) (hu : u ≤ 20) (h1 : gI M 2049 = nI nx) (h2 : gI M 2050 = nI u) : ∃ M', fX2_remember n0 M = some M' ∧ gI M' 2049 = nI ((nx + 1) % 20) ∧ gI M' 2050 = nI (min 20 (u + 1)) ∧ RowX (63 + nx) T m s.2.length s.1 pm M' ∧ XP (63 + nx) M M' := by
  obtain ⟨M1, e1, e2, e3, e4, e5, e6, e7, e8, e9, e10⟩ := xsave (n0 := n0) (M := M) (ln63 nx hnx) (by omega)
  have cx : (nI nx).toNatClampNeg = nx := nI_clamp (by omega)
  have h5 := hok.2.1
  have h6 := hok.2.2.1
  refine ⟨sI (sI M1 2049 (nI ((nx + 1) % 20))) 2050 (nI (min 20 (u + 1))), ?_, by rw [gI_ne (by decide), gI_at], gI_at, ⟨?_, ?_, fun c hc => ?_, fun d hd => ?_⟩, ⟨e7, e8, e9, fun k z => by rw [gI_ne (by omega), gI_ne (by omega), e6], fun a z => e10 a z⟩⟩
  · unfold fX2_remember
    refine eq_f (by rw [h1]; exact nI_in hnx (by decide)) (eq_b (z := M1) (by rw [h1, cx]; exact e1) (eq_f (by decide) (eq_e (v' := sI M1 2049 (nI ((nx + 1) % 20))) ?_ ?_)))
    · rw [e6, h1, show nI nx + 1 = nI (nx + 1) from nI_add nx 1, show (20 : Int32) = nI 20 from rfl, rem_nI (by omega) (by decide)]
    · rw [gI_ne (by decide), e6, h2, show nI u + 1 = nI (u + 1) from nI_add u 1, show (20 : Int32) = nI 20 from rfl, imin_nI (by decide) (by omega)]
  · exact e2.trans hS.2.2.1
  · exact e3.trans hS.2.2.2.2.2.1
  · have := e4 c (by omega)
    have p := hS.2.2.2.1 c hc
    exact ⟨this.1.trans p.1, this.2.trans p.2⟩
  · exact (e5 d (by omega)).trans (hS.2.2.2.2.1 d hd)
theorem yslot {n0 f k : Nat} {M : Mem} (hf : f < 20) (hk : k ≤ 20) (h : gI M 53 = nI f) : fX12_slot n0 (nI k) M = some (nI (2 + (f + k) % 20), M) := by
  unfold fX12_slot
  refine eq_f (by decide) ?_
  rw [h, nI_add, show (20 : Int32) = nI 20 from rfl, rem_nI (by omega) (by decide), show (2 : Int32) = nI 2 from rfl, nI_add]
/-- what is kept of an act by the reference -/
theorem ykp {n0 b m f u : Nat} {T : TP} {pm : Nat → Int32 × Nat} {s : Nat × List (Nat × Nat)} {M : Mem} (hn : 1700 ≤ n0) (hok : T.ok) (hL : LyD 0 T.nc m pm s M) (hs : sOk T.nd s) (hf : f < 20) (hu : u < 20) (h1 : gI M 53 = nI f) (h2 : gI M 54 = nI u) : ∃ M', fX12_keeps_32 n0 M = some M' ∧ LyD (2 + (f + u) % 20) T.nc m pm s M' ∧ gI M' 54 = nI (u + 1) ∧ (∀ k, ¬ k = 54 → gI M' k = gI M k) ∧ gL M' = gL M ∧ gR M' = gR M ∧ (∀ a i, ¬ a = 35 → ¬ lP (2 + (f + u) % 20) a i → gA M' a i = gA M a i) ∧ ∀ a, ¬ a = 34 → gB M' a = gB M a := by
  have hl := hs.l
  obtain ⟨M1, e1, e2, e3⟩ := ycopyD (n0 := n0) (v := 2 + (f + u) % 20) (u := 0) hn (by omega) (by decide) (by omega) hok.2.1 (by omega) hL
  refine ⟨sI M1 54 (nI (u + 1)), ?_, e2, gI_at, fun k z => by rw [gI_ne z, e3.2.2.1], e3.2.1, e3.1, e3.2.2.2.1, e3.2.2.2.2⟩
  unfold fX12_keeps_32
  refine eq_b (z := (nI (2 + (f + u) % 20), M)) (by rw [h2]; exact yslot hf (by omega) h1) (eq_b e1 ?_)
  rw [e3.2.2.1, h2, show nI u + 1 = nI (u + 1) from nI_add u 1]
theorem take_full {α : Type} {K : List α} : K.take K.length = K := List.take_length
theorem RT.cgs {n0 q b : Nat} {T : TP} {nr C : Nat} {MX MY MX' MY' : Mem} (h : RT n0 q b T nr C MX MY) (h1 : gR MX' = gR MX) (h2 : ∀ k, 3968 ≤ k → gI MX' k = gI MX k) (h3 : ∀ a, 31 ≤ a → a < 63 → gA MX' a = gA MX a) (h4 : gI MY' 13 = gI MY 13) (h5 : ∀ a, 2 ≤ a → a ≤ 17 → gA MY' a = gA MY a) (h6 : ∀ a, 18 ≤ a → a ≤ 20 → gB MY' a = gB MY a) : RT n0 q b T nr C MX' MY' := by
  have hq := h.1
  exact h.tw ⟨fun j z1 z2 => h2 j (by omega), fun a z1 z2 => h3 a (by omega) (by omega)⟩ (yTw.all h5 h6) h4 (by rw [h1]) (by rw [h1])
theorem SX.cgs {q nc nd m : Nat} {pm : Nat → Int32 × Nat} {s : Nat × List (Nat × Nat)} {M M' : Mem} (h : SX q nc nd m pm s M) (h1 : gR M' = gR M) (h2 : gI M' 1281 = gI M 1281) (h3 : gI M' 1285 = gI M 1285) (h4 : ∀ a, 11 ≤ a → a ≤ 15 → gA M' a = gA M a) : SX q nc nd m pm s M' := by
  refine ⟨by rw [h1]; exact h.1, by rw [h1]; exact h.2.1, h2.trans h.2.2.1, fun c hc => ?_, fun d hd => ?_, h3.trans h.2.2.2.2.2.1, fun i p hp => ?_⟩
  · rw [h4 11 (by decide) (by decide), h4 12 (by decide) (by decide)]; exact h.2.2.2.1 c hc
  · rw [h4 13 (by decide) (by decide)]; exact h.2.2.2.2.1 d hd
  · rw [h4 14 (by decide) (by decide), h4 15 (by decide) (by decide)]; exact h.2.2.2.2.2.2 i p hp
theorem RO.cgs {MX MY MX' MY' : Mem} (h : RO MX MY) (h1 : ∀ k, (14 ≤ k ∧ k ≤ 17) ∨ k = 641 → gI MX' k = gI MX k) (h2 : ∀ a, a = 4 ∨ a = 6 ∨ a = 29 ∨ a = 30 → gA MX' a = gA MX a) (h3 : ∀ k, k = 1 ∨ k = 10 ∨ k = 11 ∨ k = 67 → gI MY' k = gI MY k) (h4 : ∀ a, a = 1 ∨ a = 27 ∨ a = 43 → gA MY' a = gA MY a) (h5 : gL MY' 55 = gL MY 55) : RO MX' MY' := by
  obtain ⟨a1, a2, a3, a4, a5, a6⟩ := h
  exact ⟨a1.cg (h1 17 (by omega)) h5, a2.cg (h1 14 (by omega)) (h3 67 (by omega)) (h2 29 (by omega)) (h4 43 (by omega)), a3.cg (h2 30 (by omega)) (h4 27 (by omega)), a4.cg (h1 15 (by omega)) (h1 16 (by omega)) (h3 10 (by omega)) (h3 11 (by omega)), a5.cg (h1 641 (by omega)) (h3 1 (by omega)) (h2 6 (by omega)) (h4 1 (by omega)), a6.cg (h2 4 (by omega))⟩
theorem remem {n0 q b : Nat} {T : TP} {nr C m : Nat} {pm : Nat → Int32 × Nat} {s : Nat × List (Nat × Nat)} {MX MY : Mem} (hn : 1700 ≤ n0) (h : RR n0 q b T nr C m pm s MX MY) : ∃ MX' MY', fX2_remember n0 MX = some MX' ∧ fX12_keeps n0 MY = some MY' ∧ RR n0 q b T nr C m pm s MX' MY' := by
  obtain ⟨h1, h2, h3, h4, ⟨x0, f, u, e, a1, a2, a3, a4, a5, a6, a7, a8, a9⟩, h6, h7⟩ := h
  have hok := h1.2.2.2.1.2.1
  have hl := h2.2.2.l
  obtain ⟨X1, x1, x2, x3, x4, x5⟩ := xrem (n0 := n0) hok h3 (nx := (x0 + u) % 20) (by omega) a3 a4 a5
  -- the reference: a place is made
  have yk : ∃ f' u' Y1, (fX12_keeps n0 MY = fX12_keeps_32 n0 Y1) ∧ f' < 20 ∧ u' < 20 ∧ gI Y1 53 = nI f' ∧ gI Y1 54 = nI u' ∧ (∀ k, ¬ (k = 53 ∨ k = 54) → gI Y1 k = gI MY k) ∧ gA Y1 = gA MY ∧ gB Y1 = gB MY ∧ gL Y1 = gL MY ∧ ((u < 20 ∧ f' = f ∧ u' = u) ∨ (u = 20 ∧ f' = (f + 1) % 20 ∧ u' = 19)) := by
    by_cases g : u = 20
    · refine ⟨(f + 1) % 20, 19, sI (sI MY 53 (nI ((f + 1) % 20))) 54 (nI 19), ?_, by omega, by omega, by rw [gI_ne (by decide), gI_at], gI_at, fun k z => by rw [gI_ne (by omega), gI_ne (by omega)], rfl, rfl, rfl, Or.inr ⟨g, rfl, rfl⟩⟩
      unfold fX12_keeps
      refine eq_t (by rw [a7, g]; rfl) (eq_f (by decide) (eq_e (v' := sI MY 53 (nI ((f + 1) % 20))) ?_ ?_))
      · rw [a6, show nI f + 1 = nI (f + 1) from nI_add f 1, show (20 : Int32) = nI 20 from rfl, rem_nI (by omega) (by decide)]
      · rw [gI_ne (by decide), a7, g]
        rfl
    · refine ⟨f, u, MY, ?_, a2, by omega, a6, a7, fun _ _ => rfl, rfl, rfl, rfl, Or.inl ⟨by omega, rfl, rfl⟩⟩
      unfold fX12_keeps
      exact eq_f (by rw [a7]; exact fun z => g ((nI_eq (b := 20) (by omega) (by decide)).mp z)) rfl
  obtain ⟨f', u', Y1, y1, y2, y3, y4, y5, y6, y7, y8, y9, y10⟩ := yk
  obtain ⟨Y2, z1, z2, z3, z4, z5, z6, z7, z8⟩ := ykp (n0 := n0) (b := b) hn hok (h4.cg hok.2.1 (by omega) (fun a i _ => by rw [y7])) h2.2.2 y2 y3 y4 y5
  have w7 : ∀ a i, ¬ a = 35 → ¬ lP (2 + (f' + u') % 20) a i → gA Y2 a i = gA MY a i := fun a i p1 p2 => (z7 a i p1 p2).trans (by rw [y7])
  have wI : ∀ k, ¬ (k = 53 ∨ k = 54) → gI Y2 k = gI MY k := fun k p => (z4 k (by omega)).trans (y6 k p)
  have wB : ∀ a, ¬ a = 34 → gB Y2 a = gB MY a := fun a p => (z8 a p).trans (by rw [y8])
  have wA : ∀ a, ¬ (28 ≤ a ∧ a ≤ 33) → ¬ a = 35 → gA Y2 a = gA MY a := fun a p1 p2 => by
    funext i
    exact w7 a i p2 (fun z => by unfold lP tP dP at z; omega)
  refine ⟨X1, Y2, x1, y1.trans z1, ?_⟩
  refine ⟨h1.cgs x5.1 (fun k p => x5.2.2.2.1 k (by omega)) (fun a p1 p2 => x5.2.2.2.2 a (by omega)) (wI 13 (by decide)) (fun a p1 p2 => wA a (by omega) (by omega)) (fun a p1 p2 => wB a (by omega)), h2, h3.cgs x5.1 (x5.2.2.2.1 1281 (by decide)) (x5.2.2.2.1 1285 (by decide)) (fun a p1 p2 => x5.2.2.2.2 a (by omega)), h4.cg hok.2.1 (by omega) (fun a i p => w7 a i (by unfold lP tP dP at p; omega) (fun z => by unfold lP tP dP at z p; omega)), ?_, h6.cg (x5.2.2.2.1 2688 (by decide)) (wI 61 (by decide)) (fun a p1 p2 => x5.2.2.2.2 a (by omega)) (fun a p1 p2 => wA a (by omega) (by omega)), h7.cgs (fun k p => x5.2.2.2.1 k (by omega)) (fun a p => x5.2.2.2.2 a (by omega)) (fun k p => wI k (by omega)) (fun a p => wA a (by omega) (by omega)) (by rw [z5, y9])⟩
  have new : UE T s.2 (m, pm, s.1, s.2.length) (63 + (x0 + u) % 20) (2 + (f' + u') % 20) X1 Y2 := ⟨h2.1, h2.2.1, by rw [take_full]; exact h2.2.2, Nat.le_refl _, x4, by rw [take_full]; exact z2⟩
  rcases y10 with ⟨g, rfl, rfl⟩ | ⟨g, ef, eu⟩
  · refine ⟨x0, f', u' + 1, fun i => if i = u' then (m, pm, s.1, s.2.length) else e i, a1, a2, by omega, by rw [x2]; congr 1; omega, by rw [x3]; congr 1; omega, (z4 53 (by decide)).trans y4, z3, fun i hi => ?_, fun i j hij hj => ?_⟩
    · dsimp only
      by_cases gi : i = u'
      · rw [if_pos gi, gi]
        exact new
      · rw [if_neg gi]
        have o := a8 i (by omega)
        refine ⟨o.1, o.2.1, o.2.2.1, o.2.2.2.1, ?_, ?_⟩
        · have o5 := o.2.2.2.2.1
          unfold RowX at o5 ⊢
          rw [x5.2.2.2.2 (63 + (x0 + i) % 20) (by omega)]
          exact o5
        · have ol := o.2.2.1.l
          exact o.2.2.2.2.2.cg hok.2.1 (by omega) (fun a j p => w7 a j (by unfold lP tP dP at p; omega) (fun z => by unfold lP tP dP at z p; omega))
    · dsimp only
      by_cases gj : j = u'
      · rw [if_pos gj]
        by_cases gi : i = u'
        · rw [if_pos gi]; exact Nat.le_refl _
        · rw [if_neg gi]; exact (a8 i (by omega)).2.2.2.1
      · rw [if_neg gj, if_neg (by omega)]
        exact a9 i j hij (by omega)
  · subst ef eu
    refine ⟨(x0 + 1) % 20, (f + 1) % 20, 20, fun i => if i = 19 then (m, pm, s.1, s.2.length) else e (i + 1), by omega, by omega, by omega, by rw [x2]; congr 1; omega, by rw [x3]; congr 1; omega, (z4 53 (by decide)).trans y4, z3, fun i hi => ?_, fun i j hij hj => ?_⟩
    · dsimp only
      by_cases gi : i = 19
      · rw [if_pos gi, gi, show 63 + ((x0 + 1) % 20 + 19) % 20 = 63 + (x0 + u) % 20 by omega]
        exact new
      · rw [if_neg gi, show 63 + ((x0 + 1) % 20 + i) % 20 = 63 + (x0 + (i + 1)) % 20 by omega, show 2 + ((f + 1) % 20 + i) % 20 = 2 + (f + (i + 1)) % 20 by omega]
        have o := a8 (i + 1) (by omega)
        refine ⟨o.1, o.2.1, o.2.2.1, o.2.2.2.1, ?_, ?_⟩
        · have o5 := o.2.2.2.2.1
          unfold RowX at o5 ⊢
          rw [x5.2.2.2.2 (63 + (x0 + (i + 1)) % 20) (by omega)]
          exact o5
        · have ol := o.2.2.1.l
          exact o.2.2.2.2.2.cg hok.2.1 (by omega) (fun a j p => w7 a j (by unfold lP tP dP at p; omega) (fun z => by unfold lP tP dP at z p; omega))
    · dsimp only
      by_cases gj : j = 19
      · rw [if_pos gj]
        by_cases gi : i = 19
        · rw [if_pos gi]; exact Nat.le_refl _
        · rw [if_neg gi]; exact (a8 (i + 1) (by omega)).2.2.2.1
      · rw [if_neg gj, if_neg (by omega)]
        exact a9 (i + 1) (j + 1) (by omega) (by omega)
