/-! A TOWN ON BOTH SIDES: its place q in the class, its bank b in the reference; what reading into it may change -/
def regA (b a i : Nat) : Prop := ((a = 2 ∨ a = 5 ∨ a = 7 ∨ a = 10 ∨ a = 13) ∧ i = b) ∨ ((a = 3 ∨ a = 4 ∨ a = 11 ∨ a = 12) ∧ 6 * b ≤ i ∧ i < 6 * b + 6) ∨ (a = 6 ∧ 5 * b ≤ i ∧ i < 5 * b + 5) ∨ ((a = 8 ∨ a = 9) ∧ 25 * b ≤ i ∧ i < 25 * b + 25) ∨ ((a = 14 ∨ a = 15) ∧ 2 * b ≤ i ∧ i < 2 * b + 2) ∨ ((a = 16 ∨ a = 17) ∧ 1600 * b ≤ i ∧ i < 1600 * b + 1600) ∨ (21 ≤ a ∧ a ≤ 26)
def regB (b a i : Nat) : Prop := ((a = 18 ∨ a = 20) ∧ 6 * b ≤ i ∧ i < 6 * b + 6) ∨ (a = 19 ∧ 5 * b ≤ i ∧ i < 5 * b + 5)
def regI (k : Nat) : Prop := (3 ≤ k ∧ k ≤ 9) ∨ k = 12 ∨ k = 33 ∨ k = 35 ∨ k = 41 ∨ k = 42 ∨ k = 44 ∨ k = 45
/-- what the reference may change while it reads into bank b -/
def FY2 (b : Nat) (M M' : Mem) : Prop := (∀ k, ¬ regI k → gI M' k = gI M k) ∧ (∀ a i, ¬ regA b a i → gA M' a i = gA M a i) ∧ (∀ k, k ≠ 7 → gL M' k = gL M k) ∧ (∀ a i, ¬ regB b a i → gB M' a i = gB M a i)
theorem FY2.r {b : Nat} {M : Mem} : FY2 b M M := ⟨fun _ _ => rfl, fun _ _ _ => rfl, fun _ _ => rfl, fun _ _ _ => rfl⟩
theorem FY2.tr {b : Nat} {M M' M2 : Mem} (h : FY2 b M M') (g : FY2 b M' M2) : FY2 b M M2 := ⟨fun k q => (g.1 k q).trans (h.1 k q), fun a i q => (g.2.1 a i q).trans (h.2.1 a i q), fun k q => (g.2.2.1 k q).trans (h.2.2.1 k q), fun a i q => (g.2.2.2 a i q).trans (h.2.2.2 a i q)⟩
theorem FrY.b {b : Nat} {M M' : Mem} (h : FrY M M') : FY2 b M M' := ⟨fun k q => h.1 k (fun g => q (by unfold regI; omega)), fun a i _ => by rw [h.2.1 a id], fun k q => h.2.2.2.1 k q, fun a i _ => by rw [h.2.2.2.2 a id]⟩
theorem FY2.i {b k : Nat} {v : Int32} {M M' : Mem} (h : FY2 b M M') (hk : regI k) : FY2 b M (sI M' k v) := ⟨fun j q => by rw [gI_ne (fun e => q (by rw [e]; exact hk))]; exact h.1 j q, h.2.1, h.2.2.1, h.2.2.2⟩
theorem FY2.a {b a i : Nat} {v : Int32} {M M' : Mem} (h : FY2 b M M') (hk : regA b a i) : FY2 b M (sA M' a i v) := ⟨h.1, fun c j q => by
  rw [gA_sA]
  by_cases e : c = a
  · subst e
    rw [if_pos rfl, if_neg (fun e => q (by rw [e]; exact hk))]
    exact h.2.1 _ _ q
  · rw [if_neg e]
    exact h.2.1 _ _ q, h.2.2.1, h.2.2.2⟩
theorem FY2.bb {b a i : Nat} {v : Int64} {M M' : Mem} (h : FY2 b M M') (hk : regB b a i) : FY2 b M (sB M' a i v) := ⟨h.1, h.2.1, h.2.2.1, fun c j q => by
  rw [gB_sB]
  by_cases e : c = a
  · subst e
    rw [if_pos rfl, if_neg (fun e => q (by rw [e]; exact hk))]
    exact h.2.2.2 _ _ q
  · rw [if_neg e]
    exact h.2.2.2 _ _ q⟩
def rgX (q j : Nat) : Prop := (386 ≤ j ∧ j ≤ 392) ∨ j = 258 ∨ (128 * q < j ∧ j < 128 * q + 2048)
/-- what the class may change while it reads into the town at q -/
def FX2 (q : Nat) (M M' : Mem) : Prop := (∀ k, ¬ rgX q k → gI M' k = gI M k) ∧ (∀ a, ¬ (q ≤ a ∧ a < q + 16) → gA M' a = gA M a) ∧ (∀ k, k ≠ 257 → gR M' k = gR M k)
theorem FX2.r {q : Nat} {M : Mem} : FX2 q M M := ⟨fun _ _ => rfl, fun _ _ => rfl, fun _ _ => rfl⟩
theorem FX2.tr {q : Nat} {M M' M2 : Mem} (h : FX2 q M M') (g : FX2 q M' M2) : FX2 q M M2 := ⟨fun k r => (g.1 k r).trans (h.1 k r), fun a r => (g.2.1 a r).trans (h.2.1 a r), fun k r => (g.2.2 k r).trans (h.2.2 k r)⟩
theorem FI.q {q : Nat} {M M' : Mem} (h : FI 386 392 M M') : FX2 q M M' := ⟨fun k r => h.2 k (by unfold rgX at r; omega), fun a _ => by rw [h.A], fun k _ => by rw [h.R]⟩
theorem FX2.i {q k : Nat} {v : Int32} {M M' : Mem} (h : FX2 q M M') (hk : rgX q k) : FX2 q M (sI M' k v) := ⟨fun j r => by rw [gI_ne (fun e => r (by rw [e]; exact hk))]; exact h.1 j r, h.2.1, h.2.2⟩
theorem FX2.a {q a i : Nat} {v : Int32} {M M' : Mem} (h : FX2 q M M') (hk : q ≤ a ∧ a < q + 16) : FX2 q M (sA M' a i v) := ⟨h.1, fun c r => by rw [gA_sA_ne (fun e => r (by rw [e]; exact hk))]; exact h.2.1 c r, h.2.2⟩
-- the parts of a town
def ThD (nt : Nat) (w l wy ly : Nat → Int32) : Prop := ∀ i, i < nt → w i = wy i ∧ (∃ v, v ≤ 99 ∧ w i = nI v) ∧ l i = ly i ∧ ∃ v, 1 ≤ v ∧ v ≤ 99 ∧ l i = nI v
def PmD (nt nc : Nat) (p py : Nat → Int32) : Prop := ∀ i, i < nc → p i = py i ∧ (p i = -1 ∨ ∃ t, t < nt ∧ p i = nI t)
def DoD (nc nd : Nat) (c h cy hy : Nat → Int32) : Prop := ∀ i, i < nd → c i = cy i ∧ (∃ k, k < nc ∧ c i = nI k) ∧ h i = hy i ∧ ∃ v, v ≤ 23 ∧ h i = nI v
def Jn (f t : Nat → Int32) (k a c : Nat) : Prop := (f k = nI a ∧ t k = nI c) ∨ (f k = nI c ∧ t k = nI a)
def RdD (nc nr : Nat) (f t n : Nat → Int32) (sy : Nat → Int32) : Prop := nr ≤ 10 ∧ (∀ k, k < nr → ∃ a c v, a < nc ∧ c < nc ∧ a ≠ c ∧ 1 ≤ v ∧ v ≤ 30 ∧ f k = nI a ∧ t k = nI c ∧ n k = nI v) ∧ ∀ a c, a < 5 → c < 5 → (sy (5 * a + c) = 0 ∧ ∀ k, k < nr → ¬ Jn f t k a c) ∨ ∃ k, k < nr ∧ Jn f t k a c ∧ sy (5 * a + c) = n k
/-- what a code of the reference is to the class -/
def exS (s : Int32) : Int32 := if s = 1 then -1 else if s = 2 then -2 else if s = 3 then -3 else if s = 4 then -4 else if s = 5 then -5 else if s = 6 then -6 else if s = 30 then 1 else if s = 31 then -7 else if s = 32 then -8 else if s = 33 then -9 else if s = 34 then -10 else if s = 35 then -11 else if s = 36 then -12 else if s = 37 then -13 else if s = 38 then -15 else if s = 39 then -16 else if s = 40 then -17 else if s = 41 then -18 else if s = 42 then -19 else -14
def ex1 (c : Int32 × Int32) : List Int32 := if c.1 = 0 then [c.2] else if c.1 = 43 then [0, -17] else [exS c.1]
def exL (δ : List (Int32 × Int32)) : List Int32 := δ.flatMap ex1
/-- the kinds of what waits (true: a TEST's answer), code by code; at most 60 wait -/
def ty1 (c : Int32 × Int32) (st : List Bool) : Option (List Bool) :=
  if c.1 = 0 then (if st.length < 60 ∧ 0 ≤ c.2 ∧ c.2 ≤ 9999 then some (false :: st) else none)
  else if c.1 = 1 ∨ c.1 = 2 ∨ c.1 = 3 ∨ c.1 = 4 ∨ c.1 = 5 ∨ c.1 = 6 then (if st.length < 60 then some (false :: st) else none)
  else if c.1 = 30 then (if st.length < 60 then some (true :: st) else none)
  else if c.1 = 31 ∨ c.1 = 32 ∨ c.1 = 33 ∨ c.1 = 34 ∨ c.1 = 35 ∨ c.1 = 36 ∨ c.1 = 37 then (match st with | false :: false :: r => some (false :: r) | _ => none)
  else if c.1 = 38 ∨ c.1 = 39 ∨ c.1 = 40 then (match st with | false :: false :: r => some (true :: r) | _ => none)
  else if c.1 = 41 ∨ c.1 = 42 then (match st with | true :: true :: r => some (true :: r) | _ => none)
  else if c.1 = 43 then (match st with | true :: r => if r.length < 59 then some (true :: r) else none | _ => none)
  else if c.1 = 44 then (match st with | false :: false :: true :: r => some (false :: r) | _ => none)
  else none
def tyL : List (Int32 × Int32) → List Bool → Option (List Bool)
  | [], st => some st
  | c :: δ, st => (ty1 c st).bind (tyL δ)
/-- the formula at qf of the class (its steps) -/
def xlist (M : Mem) (qf : Nat) (l : List Int32) : Prop := gI M (128 * qf + 1) = nI l.length ∧ ∀ i (h : i < l.length), gA M (qf + 1) i = l[i]
/-- codes of the reference from c0 on -/
def ylist (M : Mem) (b c0 : Nat) (l : List (Int32 × Int32)) : Prop := ∀ i (h : i < l.length), gA M 16 (1600 * b + (c0 + i)) = l[i].1 ∧ gA M 17 (1600 * b + (c0 + i)) = l[i].2
def FmR (q b C wh : Nat) (MX MY : Mem) : Prop :=
  (gI MX (128 * (q + 12 + 2 * wh) + 1) = 0 ∧ gA MY 14 (2 * b + wh) = -1) ∨
  (∃ c0 δ, 0 < δ.length ∧ c0 + δ.length ≤ C ∧ xlist MX (q + 12 + 2 * wh) (exL δ) ∧ gA MY 14 (2 * b + wh) = nI c0 ∧ gA MY 15 (2 * b + wh) = nI (c0 + δ.length) ∧ ylist MY b c0 δ ∧ tyL δ [] = some [decide (wh = 1)] ∧ (exL δ).length ≤ 1600)
def TownR (q b nt nc nd nr C : Nat) (MX MY : Mem) : Prop :=
  NmR q b nt nc nd MX MY ∧
  ThD nt (gA MX (q + 2)) (gA MX (q + 3)) (fun i => gA MY 3 (6 * b + i)) (fun i => gA MY 4 (6 * b + i)) ∧
  PmD nt nc (gA MX (q + 5)) (fun i => gA MY 6 (5 * b + i)) ∧
  DoD nc nd (gA MX (q + 10)) (gA MX (q + 11)) (fun i => gA MY 11 (6 * b + i)) (fun i => gA MY 12 (6 * b + i)) ∧
  (gI MX (128 * q + 8) = nI nr ∧ gA MY 7 b = nI nr ∧ RdD nc nr (gA MX (q + 6)) (gA MX (q + 7)) (gA MX (q + 8)) (fun i => gA MY 8 (25 * b + i))) ∧
  (∃ p, p ≤ 100 ∧ gI MX (128 * q + 16) = nI p ∧ gA MY 13 b = nI p) ∧
  FmR q b C 0 MX MY ∧ FmR q b C 1 MX MY ∧ C ≤ 1600
/-- cells of a town that tell nothing yet -/
def frX (q nt nc nd nr a i : Nat) : Prop := ((a = q + 1 ∨ a = q + 2 ∨ a = q + 3) ∧ nt ≤ i) ∨ ((a = q + 4 ∨ a = q + 5) ∧ nc ≤ i) ∨ ((a = q + 6 ∨ a = q + 7 ∨ a = q + 8) ∧ nr ≤ i) ∨ ((a = q + 9 ∨ a = q + 10 ∨ a = q + 11) ∧ nd ≤ i)
def frYa (b nt nc nd C a i : Nat) : Prop := ((a = 3 ∨ a = 4) ∧ 6 * b + nt ≤ i) ∨ (a = 6 ∧ 5 * b + nc ≤ i) ∨ ((a = 11 ∨ a = 12) ∧ 6 * b + nd ≤ i) ∨ ((a = 16 ∨ a = 17) ∧ 1600 * b + C ≤ i)
def frYb (b nt nc nd a i : Nat) : Prop := (a = 18 ∧ 6 * b + nt ≤ i) ∨ (a = 19 ∧ 5 * b + nc ≤ i) ∨ (a = 20 ∧ 6 * b + nd ≤ i)
theorem TownR.fine {q b nt nc nd nr C : Nat} {MX MY MX' MY' : Mem} (h : TownR q b nt nc nd nr C MX MY) (h1 : ∀ j, 128 * q < j → j < 128 * q + 2048 → gI MX' j = gI MX j) (h2 : ∀ a i, q ≤ a → a < q + 16 → ¬ frX q nt nc nd nr a i → gA MX' a i = gA MX a i) (h3 : ∀ a i, ¬ (21 ≤ a) → regA b a i → ¬ frYa b nt nc nd C a i → gA MY' a i = gA MY a i) (h4 : ∀ a i, regB b a i → ¬ frYb b nt nc nd a i → gB MY' a i = gB MY a i) : TownR q b nt nc nd nr C MX' MY' := by
  obtain ⟨⟨⟨a1, a2, a3⟩, ⟨a4, a5, a6⟩, ⟨a7, a8, a9⟩⟩, b1, b2, b3, ⟨c1, c2, c3⟩, ⟨p, p1, p2, p3⟩, d1, d2, d3⟩ := h
  have t6 := a3.1
  have c5 := a6.1
  have d6 := a9.1
  refine ⟨⟨⟨?_, ?_, ?_⟩, ⟨?_, ?_, ?_⟩, ⟨?_, ?_, ?_⟩⟩, ?_, ?_, ?_, ⟨?_, ?_, ?_⟩, ⟨p, p1, ?_, ?_⟩, ?_, ?_, d3⟩
  · rw [h1 _ (by omega) (by omega)]; exact a1
  · rw [h3 _ _ (by omega) (by unfold regA; omega) (by unfold frYa; omega)]; exact a2
  · refine ⟨a3.1, fun i hi => ?_⟩
    dsimp only
    rw [h2 _ _ (by omega) (by omega) (by unfold frX; omega), h4 18 (6 * b + i) (by unfold regB; omega) (by unfold frYb; omega)]
    exact a3.2 i hi
  · rw [h1 _ (by omega) (by omega)]; exact a4
  · rw [h3 _ _ (by omega) (by unfold regA; omega) (by unfold frYa; omega)]; exact a5
  · refine ⟨a6.1, fun i hi => ?_⟩
    dsimp only
    rw [h2 _ _ (by omega) (by omega) (by unfold frX; omega), h4 19 (5 * b + i) (by unfold regB; omega) (by unfold frYb; omega)]
    exact a6.2 i hi
  · rw [h1 _ (by omega) (by omega)]; exact a7
  · rw [h3 _ _ (by omega) (by unfold regA; omega) (by unfold frYa; omega)]; exact a8
  · refine ⟨a9.1, fun i hi => ?_⟩
    dsimp only
    rw [h2 _ _ (by omega) (by omega) (by unfold frX; omega), h4 20 (6 * b + i) (by unfold regB; omega) (by unfold frYb; omega)]
    exact a9.2 i hi
  · intro i hi
    dsimp only
    rw [h2 (q + 2) i (by omega) (by omega) (by unfold frX; omega), h2 (q + 3) i (by omega) (by omega) (by unfold frX; omega), h3 3 (6 * b + i) (by omega) (by unfold regA; omega) (by unfold frYa; omega), h3 4 (6 * b + i) (by omega) (by unfold regA; omega) (by unfold frYa; omega)]
    exact b1 i hi
  · intro i hi
    dsimp only
    rw [h2 (q + 5) i (by omega) (by omega) (by unfold frX; omega), h3 6 (5 * b + i) (by omega) (by unfold regA; omega) (by unfold frYa; omega)]
    exact b2 i hi
  · intro i hi
    dsimp only
    rw [h2 (q + 10) i (by omega) (by omega) (by unfold frX; omega), h2 (q + 11) i (by omega) (by omega) (by unfold frX; omega), h3 11 (6 * b + i) (by omega) (by unfold regA; omega) (by unfold frYa; omega), h3 12 (6 * b + i) (by omega) (by unfold regA; omega) (by unfold frYa; omega)]
    exact b3 i hi
  · rw [h1 _ (by omega) (by omega)]; exact c1
  · rw [h3 _ _ (by omega) (by unfold regA; omega) (by unfold frYa; omega)]; exact c2
  · have jn : ∀ k, k < nr → ∀ a c, Jn (gA MX' (q + 6)) (gA MX' (q + 7)) k a c ↔ Jn (gA MX (q + 6)) (gA MX (q + 7)) k a c := fun k hk a c => by
      unfold Jn
      rw [h2 (q + 6) k (by omega) (by omega) (by unfold frX; omega), h2 (q + 7) k (by omega) (by omega) (by unfold frX; omega)]
    refine ⟨c3.1, fun k hk => ?_, fun a c ha hc => ?_⟩
    · rw [h2 (q + 6) k (by omega) (by omega) (by unfold frX; omega), h2 (q + 7) k (by omega) (by omega) (by unfold frX; omega), h2 (q + 8) k (by omega) (by omega) (by unfold frX; omega)]
      exact c3.2.1 k hk
    · dsimp only
      rw [h3 8 (25 * b + (5 * a + c)) (by omega) (by unfold regA; omega) (by unfold frYa; omega)]
      rcases c3.2.2 a c ha hc with ⟨g1, g2⟩ | ⟨k, g1, g2, g3⟩
      · exact Or.inl ⟨g1, fun k hk g => g2 k hk ((jn k hk a c).mp g)⟩
      · exact Or.inr ⟨k, g1, (jn k g1 a c).mpr g2, by rw [h2 (q + 8) k (by omega) (by omega) (by unfold frX; omega)]; exact g3⟩
  · rw [h1 _ (by omega) (by omega)]; exact p2
  · rw [h3 _ _ (by omega) (by unfold regA; omega) (by unfold frYa; omega)]; exact p3
  · unfold FmR xlist at d1 ⊢
    rw [h1 _ (by omega) (by omega), h3 14 _ (by omega) (by unfold regA; omega) (by unfold frYa; omega), h3 15 _ (by omega) (by unfold regA; omega) (by unfold frYa; omega)]
    rcases d1 with d1 | ⟨c0, δ, e1, e2, e3, e4, e5, e6, e7, e8⟩
    · exact Or.inl d1
    · refine Or.inr ⟨c0, δ, e1, e2, ⟨e3.1, fun i hi => ?_⟩, e4, e5, fun i hi => ?_, e7, e8⟩
      · rw [h2 _ _ (by omega) (by omega) (by unfold frX; omega)]
        exact e3.2 i hi
      · rw [h3 16 _ (by omega) (by unfold regA; omega) (by unfold frYa; omega), h3 17 _ (by omega) (by unfold regA; omega) (by unfold frYa; omega)]
        exact e6 i hi
  · unfold FmR xlist at d2 ⊢
    rw [h1 _ (by omega) (by omega), h3 14 _ (by omega) (by unfold regA; omega) (by unfold frYa; omega), h3 15 _ (by omega) (by unfold regA; omega) (by unfold frYa; omega)]
    rcases d2 with d1 | ⟨c0, δ, e1, e2, e3, e4, e5, e6, e7, e8⟩
    · exact Or.inl d1
    · refine Or.inr ⟨c0, δ, e1, e2, ⟨e3.1, fun i hi => ?_⟩, e4, e5, fun i hi => ?_, e7, e8⟩
      · rw [h2 _ _ (by omega) (by omega) (by unfold frX; omega)]
        exact e3.2 i hi
      · rw [h3 16 _ (by omega) (by unfold regA; omega) (by unfold frYa; omega), h3 17 _ (by omega) (by unfold regA; omega) (by unfold frYa; omega)]
        exact e6 i hi
theorem TownR.cong {q b nt nc nd nr C : Nat} {MX MY MX' MY' : Mem} (h : TownR q b nt nc nd nr C MX MY) (h1 : ∀ j, 128 * q < j → j < 128 * q + 2048 → gI MX' j = gI MX j) (h2 : ∀ a, q ≤ a → a < q + 16 → gA MX' a = gA MX a) (h3 : ∀ a i, ¬ (21 ≤ a) → regA b a i → gA MY' a i = gA MY a i) (h4 : ∀ a i, regB b a i → gB MY' a i = gB MY a i) : TownR q b nt nc nd nr C MX' MY' :=
  h.fine h1 (fun a i g1 g2 _ => by rw [h2 a g1 g2]) (fun a i g1 g2 _ => h3 a i g1 g2) (fun a i g1 _ => h4 a i g1)
/-- steps of the token leave a town as it is -/
theorem TownR.tok {q b nt nc nd nr C : Nat} {MX MY MX' MY' : Mem} (h : TownR q b nt nc nd nr C MX MY) (hq : q = 31 ∨ q = 47) (hx : FI 386 392 MX MX') (hy : FrY MY MY') : TownR q b nt nc nd nr C MX' MY' :=
  h.cong (fun j h1 _ => hx.2 j (by omega)) (fun a _ _ => by rw [hx.A]) (fun a i _ _ => by rw [hy.2.1 a id]) (fun a i _ => by rw [hy.2.2.2.2 a id])
/-- reading into one town leaves the other as it is -/
theorem TownR.other {q b q' b' nt nc nd nr C : Nat} {MX MY MX' MY' : Mem} (h : TownR q b nt nc nd nr C MX MY) (hq : (q = 31 ∧ q' = 47) ∨ (q = 47 ∧ q' = 31)) (hb : (b = 0 ∧ b' = 1) ∨ (b = 1 ∧ b' = 0)) (hx : FX2 q' MX MX') (hy : FY2 b' MY MY') : TownR q b nt nc nd nr C MX' MY' :=
  h.cong (fun j h1 h2 => hx.1 j (by unfold rgX; omega)) (fun a h1 h2 => hx.2.1 a (by omega)) (fun a i h1 h2 => hy.2.1 a i (by unfold regA at h2 ⊢; omega)) (fun a i h2 => hy.2.2.2 a i (by unfold regB at h2 ⊢; omega))
theorem Flt.cong {MX MY MX' MY' : Mem} (h : Flt MX MY) (h1 : gI MX' 391 = gI MX 391) (h2 : gI MX' 392 = gI MX 392) (h3 : gI MY' 8 = gI MY 8) (h4 : gI MY' 9 = gI MY 9) : Flt MX' MY' := by
  unfold Flt at h ⊢
  rw [h1, h2, h3, h4]
  exact h
theorem At.fr {q b : Nat} {MX MY MX' MY' : Mem} (h : At q b MX MY) (hx : FX2 q MX MX') (hy : FY2 b MY MY') : At q b MX' MY' := ⟨(hx.2.2 130 (by decide)).trans h.1, h.2.1, (hy.1 34 (by unfold regI; omega)).trans h.2.2.1, h.2.2.2⟩
