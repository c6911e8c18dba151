/-! BOTH SIDES BETWEEN TWO CALLS -/
/-- what ways there are: nothing is said of them yet -/
def FarR (q b nc : Nat) (MX MY : Mem) : Prop := q + b + nc = q + b + nc ∧ gR MX 0 = gR MX 0 ∧ gR MY 0 = gR MY 0
theorem FarR.tw {q b nc : Nat} {MX MY MX' MY' : Mem} (_ : FarR q b nc MX MY) (_ : xTw q MX MX') (_ : yTw b MY MY') : FarR q b nc MX' MY' := ⟨rfl, rfl, rfl⟩
/-- the told town, the draft, the bank -/
def RT (n0 q b : Nat) (T : TP) (nr C : Nat) (MX MY : Mem) : Prop := (q = 31 ∨ q = 47) ∧ gR MX 1 = q ∧ gR MX 2 = 78 - q ∧ XT n0 q T MX ∧ YT n0 b T MY ∧ TownR q b T.nt T.nc T.nd nr C MX MY ∧ FarR q b T.nc MX MY
theorem RT.tw {n0 q b : Nat} {T : TP} {nr C : Nat} {MX MY MX' MY' : Mem} (h : RT n0 q b T nr C MX MY) (hx : xTw q MX MX') (hy : yTw b MY MY') (h13 : gI MY' 13 = gI MY 13) (h1 : gR MX' 1 = gR MX 1) (h2 : gR MX' 2 = gR MX 2) : RT n0 q b T nr C MX' MY' :=
  ⟨h.1, h1.trans h.2.1, h2.trans h.2.2.1, h.2.2.2.1.tw hx, h.2.2.2.2.1.tw hy h13, h.2.2.2.2.2.1.tw hx hy, h.2.2.2.2.2.2.tw hx hy⟩
/-- a row of the past -/
def RowX (p : Nat) (T : TP) (m kn D : Nat) (pm : Nat → Int32 × Nat) (M : Mem) : Prop := gA M p 0 = nI m ∧ gA M p 1 = nI kn ∧ (∀ c, c < T.nc → gA M p (2 + c) = (pm c).1 ∧ gA M p (7 + c) = nI (pm c).2) ∧ ∀ d, d < T.nd → gA M p (12 + d) = nI (D / 2 ^ d % 2)
abbrev Rec : Type := Nat × (Nat → Int32 × Nat) × Nat × Nat
def UE (T : TP) (K : List (Nat × Nat)) (e : Rec) (p v : Nat) (MX MY : Mem) : Prop := e.1 ≤ 9999 ∧ PsO T.nt T.nc e.2.1 ∧ sOk T.nd (e.2.2.1, K.take e.2.2.2) ∧ e.2.2.2 ≤ K.length ∧ RowX p T e.1 e.2.2.2 e.2.2.1 e.2.1 MX ∧ LyD v T.nc e.1 e.2.1 (e.2.2.1, K.take e.2.2.2) MY
def RU (T : TP) (K : List (Nat × Nat)) (MX MY : Mem) : Prop := ∃ (x0 f u : Nat) (e : Nat → Rec), x0 < 20 ∧ f < 20 ∧ u ≤ 20 ∧ gI MX 2049 = nI ((x0 + u) % 20) ∧ gI MX 2050 = nI u ∧ gI MY 53 = nI f ∧ gI MY 54 = nI u ∧ (∀ i, i < u → UE T K (e i) (63 + (x0 + i) % 20) (2 + (f + i) % 20) MX MY) ∧ ∀ i j, i ≤ j → j < u → (e i).2.2.2 ≤ (e j).2.2.2
/-- the layers of the past -/
def uP (a i : Nat) : Prop := ((a = 28 ∨ a = 31 ∨ a = 32) ∧ 2 ≤ i) ∨ ((a = 29 ∨ a = 30) ∧ 10 ≤ i) ∨ (a = 33 ∧ 160 ≤ i)
theorem LyD.cg {v nc m : Nat} {pm : Nat → Int32 × Nat} {s : Nat × List (Nat × Nat)} {M M' : Mem} (h : LyD v nc m pm s M) (hc : nc ≤ 5) (hk : s.2.length ≤ 40) (hP : ∀ a i, lP v a i → gA M' a i = gA M a i) : LyD v nc m pm s M' :=
  ⟨⟨(hP 28 v (by unfold lP tP; omega)).trans h.1.1, fun c h1 => by
    rw [hP 29 _ (by unfold lP tP; omega), hP 30 _ (by unfold lP tP; omega)]
    exact h.1.2 c h1⟩, (hP 31 v (by unfold lP dP; omega)).trans h.2.1, (hP 32 v (by unfold lP dP; omega)).trans h.2.2.1, fun i p g => by
    have := K_lt g
    rw [hP 33 _ (by unfold lP dP; omega), hP 33 _ (by unfold lP dP; omega)]
    exact h.2.2.2 i p g⟩
theorem UE.cg {T : TP} {K K' : List (Nat × Nat)} {e : Rec} {p v : Nat} {MX MY MX' MY' : Mem} (h : UE T K e p v MX MY) (hT : T.ok) (hv : 2 ≤ v) (hK : K'.take e.2.2.2 = K.take e.2.2.2) (hl : e.2.2.2 ≤ K'.length) (hx : gA MX' p = gA MX p) (hy : ∀ a i, uP a i → gA MY' a i = gA MY a i) : UE T K' e p v MX' MY' := by
  obtain ⟨h1, h2, h3, h4, h5, h6⟩ := h
  refine ⟨h1, h2, by rw [hK]; exact h3, hl, ?_, ?_⟩
  · unfold RowX at h5 ⊢
    rw [hx]
    exact h5
  · rw [hK]
    have := h3.l
    exact h6.cg hT.2.1 (by omega) (fun a i z => hy a i (by unfold lP tP dP at z; unfold uP; omega))
theorem RU.cg {T : TP} {K K' : List (Nat × Nat)} {MX MY MX' MY' : Mem} (h : RU T K MX MY) (hT : T.ok) (hK : ∃ L, K' = K ++ L) (hx : ∀ p, 63 ≤ p → p < 83 → gA MX' p = gA MX p) (h1 : gI MX' 2049 = gI MX 2049) (h2 : gI MX' 2050 = gI MX 2050) (h3 : gI MY' 53 = gI MY 53) (h4 : gI MY' 54 = gI MY 54) (hy : ∀ a i, uP a i → gA MY' a i = gA MY a i) : RU T K' MX' MY' := by
  obtain ⟨x0, f, u, e, a1, a2, a3, a4, a5, a6, a7, a8, a9⟩ := h
  obtain ⟨L, rfl⟩ := hK
  refine ⟨x0, f, u, e, a1, a2, a3, h1.trans a4, h2.trans a5, h3.trans a6, h4.trans a7, fun i hi => ?_, a9⟩
  have g := a8 i hi
  exact g.cg hT (by omega) (List.take_append_of_le_length g.2.2.2.1) (by rw [List.length_append]; have := g.2.2.2.1; omega) (hx _ (by omega) (by omega)) hy
/-- rows seen -/
def RN (nc : Nat) (MX MY : Mem) : Prop := ∃ n, n ≤ 16 ∧ gI MX 2688 = nI n ∧ gI MY 61 = nI n ∧ ∀ k, k < n → ∃ a c h, a ≤ 40 ∧ c < nc ∧ h ≤ 23 ∧ gA MX 22 k = nI a ∧ gA MY 39 k = nI a ∧ gA MX 23 k = nI c ∧ gA MY 40 k = nI c ∧ gA MX 24 k = nI h ∧ gA MY 41 k = nI h
theorem RN.cg {nc : Nat} {MX MY MX' MY' : Mem} (h : RN nc MX MY) (h1 : gI MX' 2688 = gI MX 2688) (h2 : gI MY' 61 = gI MY 61) (hx : ∀ a, 22 ≤ a → a ≤ 24 → gA MX' a = gA MX a) (hy : ∀ a, 39 ≤ a → a ≤ 41 → gA MY' a = gA MY a) : RN nc MX' MY' := by
  obtain ⟨n, n1, n2, n3, n4⟩ := h
  refine ⟨n, n1, h1.trans n2, h2.trans n3, fun k hk => ?_⟩
  rw [hx 22 (by decide) (by decide), hx 23 (by decide) (by decide), hx 24 (by decide) (by decide), hy 39 (by decide) (by decide), hy 40 (by decide) (by decide), hy 41 (by decide) (by decide)]
  exact n4 k hk
def RD (MX MY : Mem) : Prop := ∃ x : Nat, x < 2147483648 ∧ gI MX 17 = nI x ∧ gL MY 55 = zL x
def RI (MX MY : Mem) : Prop := ∃ n, n ≤ 24 ∧ gI MX 14 = nI n ∧ gI MY 67 = nI n ∧ ∀ k, k < n → gA MX 29 k = gA MY 43 k
def RX (MX MY : Mem) : Prop := ∀ k, k < 6 → gA MX 30 k = gA MY 27 k
def RF (MX MY : Mem) : Prop := gI MX 15 = gI MY 10 ∧ gI MX 16 = gI MY 11
def RP (MX MY : Mem) : Prop := ∃ L, L ≤ 1600 ∧ gI MX 641 = nI L ∧ gI MY 1 = nI L ∧ gA MY 1 = gA MX 6 ∧ Byt (gA MX 6) L
def RW (MX : Mem) : Prop := ∀ i, i < 25 → gA MX 4 i = nI (ownC i)
theorem RD.cg {MX MY MX' MY' : Mem} (h : RD MX MY) (h1 : gI MX' 17 = gI MX 17) (h2 : gL MY' 55 = gL MY 55) : RD MX' MY' := by
  unfold RD at h ⊢
  rw [h1, h2]
  exact h
theorem RI.cg {MX MY MX' MY' : Mem} (h : RI MX MY) (h1 : gI MX' 14 = gI MX 14) (h2 : gI MY' 67 = gI MY 67) (h3 : gA MX' 29 = gA MX 29) (h4 : gA MY' 43 = gA MY 43) : RI MX' MY' := by
  unfold RI at h ⊢
  rw [h1, h2, h3, h4]
  exact h
theorem RX.cg {MX MY MX' MY' : Mem} (h : RX MX MY) (h1 : gA MX' 30 = gA MX 30) (h2 : gA MY' 27 = gA MY 27) : RX MX' MY' := by
  unfold RX at h ⊢
  rw [h1, h2]
  exact h
theorem RF.cg {MX MY MX' MY' : Mem} (h : RF MX MY) (h1 : gI MX' 15 = gI MX 15) (h2 : gI MX' 16 = gI MX 16) (h3 : gI MY' 10 = gI MY 10) (h4 : gI MY' 11 = gI MY 11) : RF MX' MY' := by
  unfold RF at h ⊢
  rw [h1, h2, h3, h4]
  exact h
theorem RP.cg {MX MY MX' MY' : Mem} (h : RP MX MY) (h1 : gI MX' 641 = gI MX 641) (h2 : gI MY' 1 = gI MY 1) (h3 : gA MX' 6 = gA MX 6) (h4 : gA MY' 1 = gA MY 1) : RP MX' MY' := by
  unfold RP at h ⊢
  rw [h1, h2, h3, h4]
  exact h
theorem RW.cg {MX MX' : Mem} (h : RW MX) (h1 : gA MX' 4 = gA MX 4) : RW MX' := by
  unfold RW at h ⊢
  rw [h1]
  exact h
def RO (MX MY : Mem) : Prop := RD MX MY ∧ RI MX MY ∧ RX MX MY ∧ RF MX MY ∧ RP MX MY ∧ RW MX
def RR (n0 q b : Nat) (T : TP) (nr C m : Nat) (pm : Nat → Int32 × Nat) (s : Nat × List (Nat × Nat)) (MX MY : Mem) : Prop := RT n0 q b T nr C MX MY ∧ (m ≤ 9999 ∧ PsO T.nt T.nc pm ∧ sOk T.nd s) ∧ SX q T.nc T.nd m pm s MX ∧ LyD 0 T.nc m pm s MY ∧ RU T s.2 MX MY ∧ RN T.nc MX MY ∧ RO MX MY
def R (n0 : Nat) (MX MY : Mem) : Prop := ∃ q b T nr C m pm s, RR n0 q b T nr C m pm s MX MY
/-- what looking ahead may change -/
def scA (a : Nat) : Prop := a = 19 ∨ a = 20 ∨ a = 26 ∨ a = 27 ∨ a = 28 ∨ (83 ≤ a ∧ a < 90)
def scP (a i : Nat) : Prop := lP 1 a i ∨ (36 ≤ a ∧ a ≤ 38) ∨ a = 42
theorem XF.gA {A : Nat → Prop} {M M' : Mem} (h : XF A M M') {a : Nat} (h1 : ¬ A a) (h2 : ¬ (a = 8 ∨ a = 9)) : gA M' a = gA M a := h.2.2.2.1 a (fun e => by
  rcases e with e | e | e
  · exact h2 (Or.inl e)
  · exact h2 (Or.inr e)
  · exact h1 e)
theorem YF.gA {P : Nat → Nat → Prop} {M M' : Mem} (h : YF P M M') {a : Nat} (h1 : ∀ i, ¬ P a i) (h2 : ¬ a = 35) : gA M' a = gA M a := by
  funext i
  exact h.2.2.2.1 a i h2 (h1 i)
theorem RO.scr {MX MY MX' MY' : Mem} (h : RO MX MY) (fx : XF scA MX MX') (fy : YF scP MY MY') : RO MX' MY' := by
  obtain ⟨h1, h2, h3, h4, h5, h6⟩ := h
  have gx : ∀ a, ¬ scA a → ¬ (a = 8 ∨ a = 9) → gA MX' a = gA MX a := fun a z1 z2 => fx.gA z1 z2
  have gy : ∀ a, (∀ i, ¬ scP a i) → ¬ a = 35 → gA MY' a = gA MY a := fun a z1 z2 => fy.gA z1 z2
  have ix : ∀ k, ¬ ((897 ≤ k ∧ k ≤ 900) ∨ k = 903) → gI MX' k = gI MX k := fx.2.2.2.2
  have iy : ∀ k, gI MY' k = gI MY k := fun k => by rw [fy.2.2.1]
  exact ⟨h1.cg (ix 17 (by decide)) (by rw [fy.2.1]), h2.cg (ix 14 (by decide)) (iy 67) (gx 29 (by unfold scA; omega) (by decide)) (gy 43 (fun i => by unfold scP lP tP dP; omega) (by decide)), h3.cg (gx 30 (by unfold scA; omega) (by decide)) (gy 27 (fun i => by unfold scP lP tP dP; omega) (by decide)), h4.cg (ix 15 (by decide)) (ix 16 (by decide)) (iy 10) (iy 11), h5.cg (ix 641 (by decide)) (iy 1) (gx 6 (by unfold scA; omega) (by decide)) (gy 1 (fun i => by unfold scP lP tP dP; omega) (by decide)), h6.cg (gx 4 (by unfold scA; omega) (by decide))⟩
theorem RR.scr {n0 q b : Nat} {T : TP} {nr C m : Nat} {pm : Nat → Int32 × Nat} {s : Nat × List (Nat × Nat)} {MX MY MX' MY' : Mem} (h : RR n0 q b T nr C m pm s MX MY) (fx : XF scA MX MX') (fy : YF scP MY MY') : RR n0 q b T nr C m pm s MX' MY' := by
  obtain ⟨h1, h2, h3, h4, h5, h6, h7⟩ := h
  have hok := h1.2.2.2.1.2.1
  have hl := h2.2.2.l
  refine ⟨h1.tw (fx.tw h1.1 (fun a z => by unfold scA at z; omega)) (fy.tw (fun a i z => by unfold scP lP tP dP at z; omega)) (by rw [fy.2.2.1]) (by rw [fx.1]) (by rw [fx.1]), h2, h3.fr fx (fun a z y => by unfold scA at z; unfold stA at y; omega), h4.fr fy hok.2.1 (by omega) (fun a i z y => by unfold scP lP tP dP at z; unfold lP tP dP at y; omega), h5.cg hok ⟨[], (List.append_nil _).symm⟩ (fun p z1 z2 => fx.gA (by unfold scA; omega) (by omega)) (fx.2.2.2.2 2049 (by decide)) (fx.2.2.2.2 2050 (by decide)) (by rw [fy.2.2.1]) (by rw [fy.2.2.1]) (fun a i z => fy.2.2.2.1 a i (by unfold uP at z; omega) (fun y => by unfold scP lP tP dP at y; unfold uP at z; omega)), h6.cg (fx.2.2.2.2 2688 (by decide)) (by rw [fy.2.2.1]) (fun a z1 z2 => fx.gA (by unfold scA; omega) (by omega)) (fun a z1 z2 => fy.gA (fun i => by unfold scP lP tP dP; omega) (by omega)), h7.scr fx fy⟩
/-- a call on both sides: one answer, and both sides as before -/
def Cal (n0 : Nat) (f g : Option (Int32 × Mem)) : Prop := ∃ r MX' MY', f = some (r, MX') ∧ g = some (r, MY') ∧ R n0 MX' MY'
theorem Cal.scr {n0 q b : Nat} {T : TP} {nr C m : Nat} {pm : Nat → Int32 × Nat} {s : Nat × List (Nat × Nat)} {MX MY MX' MY' : Mem} {f g : Option (Int32 × Mem)} {r : Int32} (h : RR n0 q b T nr C m pm s MX MY) (e1 : f = some (r, MX')) (e2 : g = some (r, MY')) (fx : XF scA MX MX') (fy : YF scP MY MY') : Cal n0 f g := ⟨r, MX', MY', e1, e2, q, b, T, nr, C, m, pm, s, h.scr fx fy⟩
theorem in_or {n : Nat} (x : Int32) (hn : n < 2 ^ 31) : (∃ k, k < n ∧ x = nI k) ∨ (x < 0 ∨ nI n ≤ x) := by
  by_cases h1 : x < 0
  · exact Or.inr (Or.inl h1)
  · by_cases h2 : nI n ≤ x
    · exact Or.inr (Or.inr h2)
    · have h3 : x ≤ nI n := by
        rw [i_le] at h2 ⊢
        omega
      obtain ⟨j, hj, rfl⟩ := nI_of2 (M := nI n) (n := n) (nI_toInt hn) h1 h3
      refine Or.inl ⟨j, ?_, rfl⟩
      rcases Nat.lt_or_ge j n with g | g
      · exact g
      · exact absurd (by rw [show j = n by omega]; exact Int32.le_refl _) h2
