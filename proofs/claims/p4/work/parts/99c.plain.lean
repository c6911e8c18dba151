/-! PLAIN CALLS: the tape, refusals, what is told of things, corners, doings -/
theorem nAnd (a b : Nat) : nI a &&& nI b = nI (a &&& b) := by
  apply Int32.toBitVec_inj.1
  show BitVec.ofNat 32 a &&& BitVec.ofNat 32 b = BitVec.ofNat 32 (a &&& b)
  exact BitVec.ofNat_and.symm
theorem n255 (x : Int32) : ∃ k, k < 256 ∧ x &&& 255 = nI k := by
  have e : x = nI x.toBitVec.toNat := by
    apply Int32.toBitVec_inj.1
    show x.toBitVec = BitVec.ofNat 32 x.toBitVec.toNat
    simp
  refine ⟨x.toBitVec.toNat % 256, Nat.mod_lt _ (by omega), ?_⟩
  rw [e, show (255 : Int32) = nI 255 from rfl, nAnd, ← Nat.and_two_pow_sub_one_eq_mod _ 8]
  congr 2
  rw [← e]
theorem yis {n0 n : Nat} {x hi : Int32} (hn : n < 2 ^ 31) (e : hi = nI n - 1) : (∃ k, k < n ∧ x = nI k ∧ ∀ M, fX12_is n0 x 0 hi M = some (1, M)) ∨ ((x < 0 ∨ nI n ≤ x) ∧ ∀ M, fX12_is n0 x 0 hi M = some (0, M)) := by
  have hi1 : hi.toInt = (n : Int) - 1 := by
    rw [e, nz, show (1 : Int32) = zI 1 from rfl, zI_sub, zI_toInt (by omega) (by omega)]
  rcases in_or x hn with ⟨k, hk, rfl⟩ | h
  · refine Or.inl ⟨k, hk, rfl, fun M => ?_⟩
    unfold fX12_is
    refine eq_f (nI_nn (by omega)) (eq_f ?_ rfl)
    rw [i_lt, hi1, nI_toInt (by omega)]
    omega
  · refine Or.inr ⟨h, fun M => ?_⟩
    unfold fX12_is
    rcases h with h | h
    · exact eq_t h rfl
    · rw [i_le, nI_toInt hn] at h
      refine eq_f (fun z => ?_) (eq_t ?_ rfl)
      · rw [i_lt, show (0 : Int32).toInt = 0 from rfl] at z
        omega
      · rw [i_lt, hi1]
        omega
theorem yisc {n0 : Nat} (n : Nat) {x hi : Int32} (hn : n < 2 ^ 31) (e : hi = nI n - 1) : (∃ k, k < n ∧ x = nI k ∧ ∀ M, fX12_is n0 x 0 hi M = some (1, M)) ∨ ((x < 0 ∨ nI n ≤ x) ∧ ∀ M, fX12_is n0 x 0 hi M = some (0, M)) := yis hn e
theorem xTht {n0 q n k : Nat} {M : Mem} (h : gI M (128 * q + 1) = nI n) (hn : n ≤ 6) (hk : k < n) : fX9_isThing n0 q (nI k) M = some (1, M) := by
  unfold fX9_isThing
  rw [h]
  exact eq_f (nI_nn (by omega)) (eq_f (nI_ge hk (by omega)) rfl)
theorem xThf {n0 q n : Nat} {x : Int32} {M : Mem} (h : gI M (128 * q + 1) = nI n) (hx : x < 0 ∨ nI n ≤ x) : fX9_isThing n0 q x M = some (0, M) := by
  unfold fX9_isThing
  rw [h]
  by_cases g : x < 0
  · exact eq_t g rfl
  · exact eq_f g (eq_t (hx.resolve_left g) rfl)
theorem yTht {n0 b n k : Nat} {M : Mem} (h13 : gI M 13 = nI b) (hb : b ≤ 1) (h : gA M 2 b = nI n) (hn : n ≤ 6) (hk : k < n) : fX12_isThing n0 (nI k) M = some (1, M) := by
  have cb : (nI b).toNatClampNeg = b := nI_clamp (by omega)
  unfold fX12_isThing
  simp only [h13, cb, h]
  exact eq_f (nI_nn (by omega)) (eq_f (nI_in (by omega) (by decide)) (eq_f (nI_ge hk (by omega)) rfl))
theorem yThf {n0 b n : Nat} {x : Int32} {M : Mem} (h13 : gI M 13 = nI b) (hb : b ≤ 1) (h : gA M 2 b = nI n) (hx : x < 0 ∨ nI n ≤ x) : fX12_isThing n0 x M = some (0, M) := by
  have cb : (nI b).toNatClampNeg = b := nI_clamp (by omega)
  unfold fX12_isThing
  simp only [h13, cb, h]
  by_cases g : x < 0
  · exact eq_t g rfl
  · exact eq_f g (eq_f (nI_in (by omega) (by decide)) (eq_t (hx.resolve_left g) rfl))
theorem isTh {n0 q b : Nat} {T : TP} {nr C : Nat} {MX MY : Mem} (h : RT n0 q b T nr C MX MY) (x : Int32) : (∃ k, k < T.nt ∧ x = nI k ∧ fX9_isThing n0 (gR MX 1) x MX = some (1, MX) ∧ fX12_isThing n0 x MY = some (1, MY)) ∨ ((x < 0 ∨ nI T.nt ≤ x) ∧ fX9_isThing n0 (gR MX 1) x MX = some (0, MX) ∧ fX12_isThing n0 x MY = some (0, MY)) := by
  obtain ⟨o1, o2, o3, _⟩ := h.2.2.2.1.2.1
  have y13 := h.2.2.2.2.1.2.2.2.1
  have hb := h.2.2.2.2.1.2.2.1
  rw [h.2.1]
  rcases in_or (n := T.nt) x (by omega) with ⟨k, hk, rfl⟩ | z
  · exact Or.inl ⟨k, hk, rfl, xTht h.2.2.2.1.1.2.2.1 o1 hk, yTht y13 hb h.2.2.2.2.1.2.2.2.2.1 o1 hk⟩
  · exact Or.inr ⟨z, xThf h.2.2.2.1.1.2.2.1 z, yThf y13 hb h.2.2.2.2.1.2.2.2.2.1 z⟩
theorem xCot {n0 q n k : Nat} {M : Mem} (h : gI M (128 * q + 5) = nI n) (hn : n ≤ 6) (hk : k < n) : fX9_isCorner n0 q (nI k) M = some (1, M) := by
  unfold fX9_isCorner
  rw [h]
  exact eq_f (nI_nn (by omega)) (eq_f (nI_ge hk (by omega)) rfl)
theorem xCof {n0 q n : Nat} {x : Int32} {M : Mem} (h : gI M (128 * q + 5) = nI n) (hx : x < 0 ∨ nI n ≤ x) : fX9_isCorner n0 q x M = some (0, M) := by
  unfold fX9_isCorner
  rw [h]
  by_cases g : x < 0
  · exact eq_t g rfl
  · exact eq_f g (eq_t (hx.resolve_left g) rfl)
theorem yCot {n0 b n k : Nat} {M : Mem} (h13 : gI M 13 = nI b) (hb : b ≤ 1) (h : gA M 5 b = nI n) (hn : n ≤ 6) (hk : k < n) : fX12_isCorner n0 (nI k) M = some (1, M) := by
  have cb : (nI b).toNatClampNeg = b := nI_clamp (by omega)
  unfold fX12_isCorner
  simp only [h13, cb, h]
  exact eq_f (nI_nn (by omega)) (eq_f (nI_in (by omega) (by decide)) (eq_f (nI_ge hk (by omega)) rfl))
theorem yCof {n0 b n : Nat} {x : Int32} {M : Mem} (h13 : gI M 13 = nI b) (hb : b ≤ 1) (h : gA M 5 b = nI n) (hx : x < 0 ∨ nI n ≤ x) : fX12_isCorner n0 x M = some (0, M) := by
  have cb : (nI b).toNatClampNeg = b := nI_clamp (by omega)
  unfold fX12_isCorner
  simp only [h13, cb, h]
  by_cases g : x < 0
  · exact eq_t g rfl
  · exact eq_f g (eq_f (nI_in (by omega) (by decide)) (eq_t (hx.resolve_left g) rfl))
theorem isCo {n0 q b : Nat} {T : TP} {nr C : Nat} {MX MY : Mem} (h : RT n0 q b T nr C MX MY) (x : Int32) : (∃ k, k < T.nc ∧ x = nI k ∧ fX9_isCorner n0 (gR MX 1) x MX = some (1, MX) ∧ fX12_isCorner n0 x MY = some (1, MY)) ∨ ((x < 0 ∨ nI T.nc ≤ x) ∧ fX9_isCorner n0 (gR MX 1) x MX = some (0, MX) ∧ fX12_isCorner n0 x MY = some (0, MY)) := by
  obtain ⟨o1, o2, o3, _⟩ := h.2.2.2.1.2.1
  have y13 := h.2.2.2.2.1.2.2.2.1
  have hb := h.2.2.2.2.1.2.2.1
  rw [h.2.1]
  rcases in_or (n := T.nc) x (by omega) with ⟨k, hk, rfl⟩ | z
  · exact Or.inl ⟨k, hk, rfl, xCot h.2.2.2.1.2.2.1 (Nat.le_trans o2 (by decide)) hk, yCot y13 hb h.2.2.2.2.1.2.2.2.2.2.1 (Nat.le_trans o2 (by decide)) hk⟩
  · exact Or.inr ⟨z, xCof h.2.2.2.1.2.2.1 z, yCof y13 hb h.2.2.2.2.1.2.2.2.2.2.1 z⟩
theorem xDot {n0 q n k : Nat} {M : Mem} (h : gI M (128 * q + 12) = nI n) (hn : n ≤ 6) (hk : k < n) : fX9_isDoing n0 q (nI k) M = some (1, M) := by
  unfold fX9_isDoing
  rw [h]
  exact eq_f (nI_nn (by omega)) (eq_f (nI_ge hk (by omega)) rfl)
theorem xDof {n0 q n : Nat} {x : Int32} {M : Mem} (h : gI M (128 * q + 12) = nI n) (hx : x < 0 ∨ nI n ≤ x) : fX9_isDoing n0 q x M = some (0, M) := by
  unfold fX9_isDoing
  rw [h]
  by_cases g : x < 0
  · exact eq_t g rfl
  · exact eq_f g (eq_t (hx.resolve_left g) rfl)
theorem yDot {n0 b n k : Nat} {M : Mem} (h13 : gI M 13 = nI b) (hb : b ≤ 1) (h : gA M 10 b = nI n) (hn : n ≤ 6) (hk : k < n) : fX12_isDoing n0 (nI k) M = some (1, M) := by
  have cb : (nI b).toNatClampNeg = b := nI_clamp (by omega)
  unfold fX12_isDoing
  simp only [h13, cb, h]
  exact eq_f (nI_nn (by omega)) (eq_f (nI_in (by omega) (by decide)) (eq_f (nI_ge hk (by omega)) rfl))
theorem yDof {n0 b n : Nat} {x : Int32} {M : Mem} (h13 : gI M 13 = nI b) (hb : b ≤ 1) (h : gA M 10 b = nI n) (hx : x < 0 ∨ nI n ≤ x) : fX12_isDoing n0 x M = some (0, M) := by
  have cb : (nI b).toNatClampNeg = b := nI_clamp (by omega)
  unfold fX12_isDoing
  simp only [h13, cb, h]
  by_cases g : x < 0
  · exact eq_t g rfl
  · exact eq_f g (eq_f (nI_in (by omega) (by decide)) (eq_t (hx.resolve_left g) rfl))
theorem isDo {n0 q b : Nat} {T : TP} {nr C : Nat} {MX MY : Mem} (h : RT n0 q b T nr C MX MY) (x : Int32) : (∃ k, k < T.nd ∧ x = nI k ∧ fX9_isDoing n0 (gR MX 1) x MX = some (1, MX) ∧ fX12_isDoing n0 x MY = some (1, MY)) ∨ ((x < 0 ∨ nI T.nd ≤ x) ∧ fX9_isDoing n0 (gR MX 1) x MX = some (0, MX) ∧ fX12_isDoing n0 x MY = some (0, MY)) := by
  obtain ⟨o1, o2, o3, _⟩ := h.2.2.2.1.2.1
  have y13 := h.2.2.2.2.1.2.2.2.1
  have hb := h.2.2.2.2.1.2.2.1
  rw [h.2.1]
  rcases in_or (n := T.nd) x (by omega) with ⟨k, hk, rfl⟩ | z
  · exact Or.inl ⟨k, hk, rfl, xDot h.2.2.2.1.2.2.2.1 o3 hk, yDot y13 hb h.2.2.2.2.1.2.2.2.2.2.2.1 o3 hk⟩
  · exact Or.inr ⟨z, xDof h.2.2.2.1.2.2.2.1 z, yDof y13 hb h.2.2.2.2.1.2.2.2.2.2.2.1 z⟩
/-- what plain calls may change -/
def XOu (M M' : Mem) : Prop := gR M' = gR M ∧ (∀ k, ¬ ((14 ≤ k ∧ k ≤ 17) ∨ k = 641) → gI M' k = gI M k) ∧ ∀ a, ¬ (a = 6 ∨ a = 29 ∨ a = 30) → gA M' a = gA M a
def YOu (M M' : Mem) : Prop := (∀ k, ¬ (k = 1 ∨ k = 10 ∨ k = 11 ∨ k = 67) → gI M' k = gI M k) ∧ (∀ a, ¬ (a = 1 ∨ a = 27 ∨ a = 43) → gA M' a = gA M a) ∧ gB M' = gB M
theorem RR.ou {n0 q b : Nat} {T : TP} {nr C m : Nat} {pm : Nat → Int32 × Nat} {s : Nat × List (Nat × Nat)} {MX MY MX' MY' : Mem} (h : RR n0 q b T nr C m pm s MX MY) (fx : XOu MX MX') (fy : YOu MY MY') (ho : RO MX' MY') : RR n0 q b T nr C m pm s MX' MY' := by
  obtain ⟨h1, h2, h3, h4, h5, h6, h7⟩ := h
  have hok := h1.2.2.2.1.2.1
  have hl := h2.2.2.l
  have hq := h1.1
  refine ⟨h1.tw ⟨fun j z1 z2 => fx.2.1 j (by omega), fun a z1 z2 => fx.2.2 a (by omega)⟩ (yTw.all (fun a z1 z2 => fy.2.1 a (by omega)) (fun a _ _ => by rw [fy.2.2])) (fy.1 13 (by decide)) (by rw [fx.1]) (by rw [fx.1]), h2, ?_, h4.cg hok.2.1 (by omega) (fun a i z => by rw [fy.2.1 a (by unfold lP tP dP at z; omega)]), h5.cg hok ⟨[], (List.append_nil _).symm⟩ (fun p z1 z2 => fx.2.2 p (by omega)) (fx.2.1 2049 (by decide)) (fx.2.1 2050 (by decide)) (fy.1 53 (by decide)) (fy.1 54 (by decide)) (fun a i z => by rw [fy.2.1 a (by unfold uP at z; omega)]), h6.cg (fx.2.1 2688 (by decide)) (fy.1 61 (by decide)) (fun a z1 z2 => fx.2.2 a (by omega)) (fun a z1 z2 => fy.2.1 a (by omega)), ho⟩
  obtain ⟨s1, s2, s3, s4, s5, s6, s7⟩ := h3
  refine ⟨by rw [fx.1]; exact s1, by rw [fx.1]; exact s2, (fx.2.1 1281 (by decide)).trans s3, fun c hc => ?_, fun d hd => ?_, (fx.2.1 1285 (by decide)).trans s6, fun i p hp => ?_⟩
  · rw [fx.2.2 11 (by decide), fx.2.2 12 (by decide)]; exact s4 c hc
  · rw [fx.2.2 13 (by decide)]; exact s5 d hd
  · rw [fx.2.2 14 (by decide), fx.2.2 15 (by decide)]; exact s7 i p hp
theorem xref {n0 k : Nat} {M : Mem} (hk : k < 6) : fX11_refuse n0 (nI k) M = some (-1, sA M 30 k (gA M 30 k + 1)) := by
  have ck : (nI k).toNatClampNeg = k := nI_clamp (by omega)
  unfold fX11_refuse
  simp only [ck]
  exact eq_f (nI_nn (by omega)) (eq_f (nI_ge (b := 6) hk (by decide)) (eq_f (nI_in hk (by decide)) (eq_f (nI_in hk (by decide)) rfl)))
theorem yref {n0 k : Nat} {M : Mem} (hk : k < 6) : fX12_refuses n0 (nI k) M = some (-1, sA M 27 k (gA M 27 k + 1)) := by
  have ck : (nI k).toNatClampNeg = k := nI_clamp (by omega)
  unfold fX12_refuses
  simp only [ck]
  exact eq_f (nI_in hk (by decide)) (eq_f (nI_in hk (by decide)) rfl)
theorem R.ref {n0 k : Nat} {MX MY : Mem} (h : R n0 MX MY) (hk : k < 6) : R n0 (sA MX 30 k (gA MX 30 k + 1)) (sA MY 27 k (gA MY 27 k + 1)) := by
  obtain ⟨q, b, T, nr, C, m, pm, s, h⟩ := h
  have ho := h.2.2.2.2.2.2
  refine ⟨q, b, T, nr, C, m, pm, s, h.ou ⟨rfl, fun _ _ => rfl, fun a z => gA_sA_ne (by omega)⟩ ⟨fun _ _ => rfl, fun a z => gA_sA_ne (by omega), rfl⟩ ⟨ho.1, ho.2.1.cg rfl rfl (gA_sA_ne (by decide)) (gA_sA_ne (by decide)), fun j hj => ?_, ho.2.2.2.1, ho.2.2.2.2.1.cg rfl rfl (gA_sA_ne (by decide)) (gA_sA_ne (by decide)), ho.2.2.2.2.2.cg (gA_sA_ne (by decide))⟩⟩
  rw [gA_sA, if_pos rfl, gA_sA, if_pos rfl, ho.2.2.1 k hk, ho.2.2.1 j hj]
/-- a refusal on both sides -/
theorem Cal.ref {n0 k : Nat} {MX MY : Mem} {f g : Option (Int32 × Mem)} {r : Int32} (h : R n0 MX MY) (hk : k < 6) (e1 : f = some (r, sA MX 30 k (gA MX 30 k + 1))) (e2 : g = some (r, sA MY 27 k (gA MY 27 k + 1))) : Cal n0 f g := ⟨r, _, _, e1, e2, h.ref hk⟩
theorem Cal.same {n0 : Nat} {MX MY : Mem} {f g : Option (Int32 × Mem)} {r : Int32} (h : R n0 MX MY) (e1 : f = some (r, MX)) (e2 : g = some (r, MY)) : Cal n0 f g := ⟨r, _, _, e1, e2, h⟩
theorem cEnd {n0 : Nat} {x : Int32} {MX MY : Mem} (h : R n0 MX MY) : Cal n0 (fX11_end n0 x MX) (fX12_end n0 x MY) := by
  have h0 := h
  obtain ⟨q, b, T, nr, C, m, pm, s, h⟩ := h
  have ho := h.2.2.2.2.2.2
  obtain ⟨L, l1, l2, l3, l4, l5⟩ := ho.2.2.2.2.1
  have bad : ∀ r1 r2, r1 = fX11_end_15 n0 MX → r2 = fX12_end_12 n0 MY → Cal n0 r1 r2 := fun r1 r2 e1 e2 => by
    refine Cal.ref (k := 0) h0 (by decide) (r := 0) ?_ ?_
    · rw [e1]
      unfold fX11_end_15
      exact eq_b (xref (k := 0) (by decide)) rfl
    · rw [e2]
      unfold fX12_end_12
      exact eq_b (yref (k := 0) (by decide)) (eq_t (show (-1 : Int32) < 0 by decide) rfl)
  unfold fX11_end fX12_end
  rw [l2, l3]
  by_cases g : x < 0
  · rw [if_pos g, if_pos g]; exact bad _ _ rfl rfl
  · by_cases g2 : x ≤ nI L
    · obtain ⟨k, hk, rfl⟩ := nI_of2 (M := nI L) (n := L) (nI_toInt (by omega)) g g2
      rw [if_neg g, if_neg g, if_pos g2, if_pos g2]
      refine ⟨1, sI MX 641 (nI k), sI MY 1 (nI k), rfl, rfl, q, b, T, nr, C, m, pm, s, h.ou ⟨rfl, fun k z => gI_ne (by omega), fun _ _ => rfl⟩ ⟨fun k z => gI_ne (by omega), fun _ _ => rfl, rfl⟩ ⟨ho.1, ho.2.1, ho.2.2.1, ho.2.2.2.1, ⟨k, by omega, gI_at, gI_at, l4, fun i hi => l5 i (by omega)⟩, ho.2.2.2.2.2⟩⟩
    · rw [if_neg g, if_neg g, if_neg g2, if_neg g2]; exact bad _ _ rfl rfl
theorem cSeed {n0 : Nat} {x : Int32} {MX MY : Mem} (h : R n0 MX MY) : Cal n0 (fX11_seed n0 x MX) (fX12_seed n0 x MY) := by
  have h0 := h
  obtain ⟨q, b, T, nr, C, m, pm, s, h⟩ := h
  have ho := h.2.2.2.2.2.2
  unfold fX11_seed fX12_seed
  by_cases g : 0 ≤ x
  · rw [if_pos g, if_pos g]
    refine ⟨1, sI MX 17 x, sL MY 55 x.toInt64, rfl, rfl, q, b, T, nr, C, m, pm, s, h.ou ⟨rfl, fun k z => gI_ne (by omega), fun _ _ => rfl⟩ ⟨fun _ _ => rfl, fun _ _ => rfl, rfl⟩ ⟨⟨x.toInt.toNat, ?_, ?_, ?_⟩, ho.2.1, ho.2.2.1, ho.2.2.2.1, ho.2.2.2.2.1, ho.2.2.2.2.2⟩⟩
    · have := Int32.toInt_lt x
      have : (2147483648 : Int) = 2 ^ 31 := by decide
      omega
    · have g' : 0 ≤ x.toInt := by rw [i_le] at g; exact g
      rw [gI_at, nz, Int.toNat_of_nonneg g', zI_of]
    · have g' : 0 ≤ x.toInt := by rw [i_le] at g; exact g
      show gL (sL MY 55 x.toInt64) 55 = _
      rw [gL_sL, if_pos rfl, Int.toNat_of_nonneg g']
      have h1 := Int32.toInt_lt x
      have h2 := Int32.le_toInt x
      rw [← zI_long (by omega) (by omega), zI_of]
  · rw [if_neg g, if_neg g]
    exact Cal.ref (k := 5) h0 (by decide) (r := 0) (eq_b (xref (k := 5) (by decide)) rfl) (eq_b (yref (k := 5) (by decide)) (eq_t (show (-1 : Int32) < 0 by decide) rfl))
theorem cFault {n0 : Nat} {x : Int32} {MX MY : Mem} (h : R n0 MX MY) : Cal n0 (fX11_fault n0 x MX) (fX12_fault n0 x MY) := by
  have h0 := h
  obtain ⟨q, b, T, nr, C, m, pm, s, h⟩ := h
  have ho := h.2.2.2.2.2.2
  unfold fX11_fault fX12_fault
  rw [← ho.2.2.2.1.1, ← ho.2.2.2.1.2]
  by_cases g : x = 0
  · exact Cal.same h0 (eq_t g rfl) (eq_t g rfl)
  · by_cases g2 : x = 1
    · exact Cal.same h0 (eq_f g (eq_t g2 rfl)) (eq_f g (eq_t g2 rfl))
    · exact Cal.same h0 (eq_f g (eq_f g2 rfl)) (eq_f g (eq_f g2 rfl))
theorem cStatus {n0 : Nat} {x : Int32} {MX MY : Mem} (h : R n0 MX MY) : Cal n0 (fX11_status n0 x MX) (fX12_status n0 x MY) := by
  have h0 := h
  obtain ⟨q, b, T, nr, C, m, pm, s, h⟩ := h
  have ho := h.2.2.2.2.2.2
  unfold fX11_status fX12_status
  rcases yisc (n0 := n0) 6 (x := x) (hi := 5) (by decide) (by decide) with ⟨k, hk, rfl, e⟩ | ⟨z, e⟩
  · have ck : (nI k).toNatClampNeg = k := nI_clamp (by omega)
    refine Cal.same (r := gA MX 30 k) h0 (eq_f (nI_nn (by omega)) (eq_f (nI_ge (b := 6) hk (by decide)) (eq_f (nI_in hk (by decide)) ?_))) (eq_b (e MY) (eq_f (show ¬ (1 : Int32) = 0 by decide) (eq_f (nI_in hk (by decide)) ?_)))
    · rw [ck]
    · rw [ck, ho.2.2.1 k hk]
  · refine Cal.same (r := -1) h0 ?_ (eq_b (e MY) (eq_t rfl rfl))
    by_cases g : x < 0
    · exact eq_t g rfl
    · exact eq_f g (eq_t (z.resolve_left g) rfl)
theorem cOctet {n0 : Nat} {x : Int32} {MX MY : Mem} (h : R n0 MX MY) : Cal n0 (fX11_octet n0 x MX) (fX12_octet n0 x MY) := by
  have h0 := h
  obtain ⟨q, b, T, nr, C, m, pm, s, h⟩ := h
  have ho := h.2.2.2.2.2.2
  obtain ⟨n, n1, n2, n3, n4⟩ := ho.2.1
  unfold fX11_octet fX12_octet
  rw [n2, n3]
  rcases yisc (n0 := n0) n (x := x) (hi := nI n - 1) (by omega) rfl with ⟨k, hk, rfl, e⟩ | ⟨z, e⟩
  · have ck : (nI k).toNatClampNeg = k := nI_clamp (by omega)
    refine Cal.same (r := gA MX 29 k) h0 (eq_f (nI_nn (by omega)) (eq_f (nI_ge hk (by omega)) (eq_f (nI_in (by omega) (by decide)) ?_))) (eq_b (e MY) (eq_f (show ¬ (1 : Int32) = 0 by decide) (eq_f (nI_in (by omega) (by decide)) ?_)))
    · rw [ck]
    · rw [ck, n4 k hk]
  · refine Cal.same (r := -1) h0 ?_ (eq_b (e MY) (eq_t rfl rfl))
    by_cases g : x < 0
    · exact eq_t g rfl
    · exact eq_f g (eq_t (z.resolve_left g) rfl)
theorem cKept {n0 : Nat} {x y : Int32} {MX MY : Mem} (h : R n0 MX MY) : Cal n0 (fX11_kept n0 x y MX) (fX12_kept n0 x y MY) := by
  have h0 := h
  obtain ⟨q, b, T, nr, C, m, pm, s, h⟩ := h
  obtain ⟨h1, h2, h3, h4, _⟩ := h
  have hl := h2.2.2.l
  have kx := h3.2.2.2.2.2
  have ky := h4.2.2
  unfold fX11_kept fX12_kept
  rw [kx.1, show gA MY 32 (Int32.toNatClampNeg 0) = nI s.2.length from ky.1]
  rcases yisc (n0 := n0) s.2.length (x := x) (hi := nI s.2.length - 1) (by omega) rfl with ⟨k, hk, rfl, e⟩ | ⟨z, e⟩
  · have ck : (nI k).toNatClampNeg = k := nI_clamp (by omega)
    obtain ⟨p, hp⟩ : ∃ p, s.2[k]? = some p := ⟨_, List.getElem?_eq_getElem hk⟩
    have kx2 := kx.2 k p hp
    have ky2 := ky.2 k p hp
    rcases yisc (n0 := n0) 2 (x := y) (hi := 1) (by decide) (by decide) with ⟨j, hj, rfl, e2⟩ | ⟨z2, e2⟩
    · have cj : (nI (2 * k + j)).toNatClampNeg = 2 * k + j := nI_clamp (by omega)
      have oj : ¬ oob ((2 : Int32) * nI k + nI j) 1760 := by rw [y2Ix]; exact nI_in (by omega) (by decide)
      have ok : ¬ oob (nI k) 6 := nI_in (by omega) (by decide)
      rcases Nat.lt_or_ge j 1 with g | g
      · have e0 : j = 0 := by omega
        subst e0
        refine Cal.same (r := nI p.1) h0 (eq_f (nI_nn (by omega)) (eq_t (nI_lt hk (by omega)) (eq_t rfl (eq_f ok ?_)))) (eq_f (by decide) (eq_b (e MY) (eq_f (show ¬ (1 : Int32) = 0 by decide) (eq_b (e2 MY) (eq_f (show ¬ (1 : Int32) = 0 by decide) (eq_f oj ?_))))))
        · rw [ck, kx2.1]
        · rw [y2Ix, cj, show 2 * k + 0 = 80 * 0 + 2 * k by omega, ky2.1]
      · have e0 : j = 1 := by omega
        subst e0
        refine Cal.same (r := nI p.2) h0 (eq_f (nI_nn (by omega)) (eq_t (nI_lt hk (by omega)) (eq_f (by decide) (eq_t rfl (eq_f ok ?_))))) (eq_f (by decide) (eq_b (e MY) (eq_f (show ¬ (1 : Int32) = 0 by decide) (eq_b (e2 MY) (eq_f (show ¬ (1 : Int32) = 0 by decide) (eq_f oj ?_))))))
        · rw [ck, kx2.2]
        · rw [y2Ix, cj, show 2 * k + 1 = 80 * 0 + 2 * k + 1 by omega, ky2.2]
    · refine Cal.same (r := -1) h0 (eq_f (nI_nn (by omega)) (eq_t (nI_lt hk (by omega)) (eq_f ?_ (eq_f ?_ rfl)))) (eq_f (by decide) (eq_b (e MY) (eq_f (show ¬ (1 : Int32) = 0 by decide) (eq_b (e2 MY) (eq_t rfl rfl)))))
      · rintro rfl; exact absurd z2 (by decide)
      · rintro rfl; exact absurd z2 (by decide)
  · refine Cal.same (r := -1) h0 ?_ (eq_f (by decide) (eq_b (e MY) (eq_t rfl rfl)))
    by_cases g : x < 0
    · exact eq_t g rfl
    · refine eq_f g (eq_f (fun z2 => ?_) rfl)
      have z3 := z.resolve_left g
      rw [i_le] at z3
      rw [i_lt] at z2
      omega
theorem cThing {n0 : Nat} {x y : Int32} {MX MY : Mem} (h : R n0 MX MY) : Cal n0 (fX11_thing n0 x y MX) (fX12_thing n0 x y MY) := by
  have h0 := h
  obtain ⟨q, b, T, nr, C, m, pm, s, h⟩ := h
  have h1 := h.1
  unfold fX11_thing fX12_thing
  rcases isTh h1 x with ⟨k, hk, rfl, e1, e2⟩ | ⟨z, e1, e2⟩
  · have o1 := h1.2.2.2.1.2.1.1
    have hb := h1.2.2.2.2.1.2.2.1
    have h13 := h1.2.2.2.2.1.2.2.2.1
    have ck : (nI k).toNatClampNeg = k := nI_clamp (by omega)
    have cj : (nI (6 * b + k)).toNatClampNeg = 6 * b + k := nI_clamp (by omega)
    have oj : ¬ oob ((6 : Int32) * gI MY 13 + nI k) 12 := by rw [h13, y6Ix]; exact nI_in (by omega) (by decide)
    have ok : ¬ oob (nI k) 6 := nI_in (by omega) (by decide)
    obtain ⟨t1, _, t2, _⟩ := h1.2.2.2.2.2.1.2.1 k hk
    by_cases g : y = 0
    · refine Cal.same (r := gA MX (q + 2) k) h0 (eq_b e1 (eq_f (show ¬ (1 : Int32) = 0 by decide) (eq_t g (eq_f ok ?_)))) (eq_b e2 (eq_f (show ¬ (1 : Int32) = 0 by decide) (eq_t g (eq_f oj ?_))))
      · show some (gA MX (gR MX 1 + 2) (nI k).toNatClampNeg, MX) = _
        rw [ck, h1.2.1]
      · show some (gA MY 3 ((6 : Int32) * gI MY 13 + nI k).toNatClampNeg, MY) = _
        rw [h13, y6Ix, cj, t1]
    · by_cases g2 : y = 1
      · refine Cal.same (r := gA MX (q + 3) k) h0 (eq_b e1 (eq_f (show ¬ (1 : Int32) = 0 by decide) (eq_f g (eq_t g2 (eq_f ok ?_))))) (eq_b e2 (eq_f (show ¬ (1 : Int32) = 0 by decide) (eq_f g (eq_t g2 (eq_f oj ?_)))))
        · show some (gA MX (gR MX 1 + 3) (nI k).toNatClampNeg, MX) = _
          rw [ck, h1.2.1]
        · show some (gA MY 4 ((6 : Int32) * gI MY 13 + nI k).toNatClampNeg, MY) = _
          rw [h13, y6Ix, cj, t2]
      · exact Cal.same (r := -1) h0 (eq_b e1 (eq_f (show ¬ (1 : Int32) = 0 by decide) (eq_f g (eq_f g2 rfl)))) (eq_b e2 (eq_f (show ¬ (1 : Int32) = 0 by decide) (eq_f g (eq_f g2 rfl))))
  · exact Cal.same (r := -1) h0 (eq_b e1 (eq_t rfl rfl)) (eq_b e2 (eq_t rfl rfl))
theorem xlook {n0 q k m : Nat} {T : TP} {pm : Nat → Int32 × Nat} {s : Nat × List (Nat × Nat)} {M : Mem} (hS : SX q T.nc T.nd m pm s M) (h5 : T.nc ≤ 5) (hk : k < T.nc) : fX11_lookAt n0 (nI k) M = some (hld M (nI k) (pm k).1 (nI (pm k).2) (nI m)) := by
  have ck : (nI k).toNatClampNeg = k := nI_clamp (by omega)
  have ok : ¬ oob (nI k) 5 := nI_in (by omega) (by decide)
  unfold fX11_lookAt
  refine eq_f ok (eq_f ok (eq_b (z := hld M (nI k) (pm k).1 (nI (pm k).2) (nI m)) ?_ rfl))
  rw [ck, (hS.2.2.2.1 k hk).1, (hS.2.2.2.1 k hk).2, hS.2.2.1]
  exact xhold
theorem xhourAt {n0 q k m : Nat} {T : TP} {pm : Nat → Int32 × Nat} {s : Nat × List (Nat × Nat)} {M : Mem} (hT : XT n0 q T M) (hS : SX q T.nc T.nd m pm s M) (hO : PsO T.nt T.nc pm) (hm : m ≤ 20000) (hk : k < T.nc) : ∃ M', fX11_hourAt n0 (nI k) M = some (nI (T.hF k (pm k).1 (pm k).2 m), M') ∧ XF noN M M' := by
  have h5 := hT.2.1.2.1
  have f1 : XF noN M (hld M (nI k) (pm k).1 (nI (pm k).2) (nI m)) := hld_f
  have o := hO k hk
  obtain ⟨_, M2, e1, e2, e3⟩ := xhr (hT.1.xf f1 (fun _ z => z.elim)) (hld_p hS.1) ⟨by omega, o.1, o.2, hm⟩
  refine ⟨M2, ?_, f1.tr e3⟩
  unfold fX11_hourAt
  exact eq_b (xlook hS h5 hk) (eq_b e1 rfl)
theorem cCorner {n0 : Nat} {x y : Int32} {MX MY : Mem} (h : R n0 MX MY) : Cal n0 (fX11_corner n0 x y MX) (fX12_corner n0 x y MY) := by
  have h0 := h
  obtain ⟨q, b, T, nr, C, m, pm, s, h⟩ := h
  obtain ⟨h1, h2, h3, h4, _⟩ := id h
  unfold fX11_corner fX12_corner
  rcases isCo h1 x with ⟨k, hk, rfl, e1, e2⟩ | ⟨z, e1, e2⟩
  · have o1 := h1.2.2.2.1.2.1.2.1
    have ck : (nI k).toNatClampNeg = k := nI_clamp (by omega)
    have ok : ¬ oob (nI k) 5 := nI_in (by omega) (by decide)
    have oj : ¬ oob (nI k) 110 := nI_in (by omega) (by decide)
    have px := h3.2.2.2.1 k hk
    have py := h4.1.2 k hk
    rw [show 5 * 0 + k = k by omega] at py
    by_cases g : y = 0
    · refine Cal.same (r := (pm k).1) h0 (eq_b e1 (eq_f (show ¬ (1 : Int32) = 0 by decide) (eq_t g (eq_f ok ?_)))) (eq_b e2 (eq_f (show ¬ (1 : Int32) = 0 by decide) (eq_t g (eq_f oj ?_))))
      · rw [ck, px.1]
      · rw [ck, py.1]
    · by_cases g2 : y = 1
      · refine Cal.same (r := nI (pm k).2) h0 (eq_b e1 (eq_f (show ¬ (1 : Int32) = 0 by decide) (eq_f g (eq_t g2 (eq_f ok ?_))))) (eq_b e2 (eq_f (show ¬ (1 : Int32) = 0 by decide) (eq_f g (eq_t g2 (eq_f oj ?_)))))
        · rw [ck, px.2]
        · rw [ck, py.2]
      · by_cases g3 : y = 2
        · obtain ⟨M1, a1, a2⟩ := xhourAt h1.2.2.2.1 h3 h2.2.1 (by omega) hk
          obtain ⟨_, M2, b1, b2⟩ := yhr h1.2.2.2.2.1 (v := 0) (by decide) h4.1 h2.2.1 (by omega) hk
          exact Cal.scr h (eq_b e1 (eq_f (show ¬ (1 : Int32) = 0 by decide) (eq_f g (eq_f g2 (eq_t g3 (eq_b a1 rfl)))))) (eq_b e2 (eq_f (show ¬ (1 : Int32) = 0 by decide) (eq_f g (eq_f g2 (eq_t g3 (eq_b b1 rfl)))))) a2.n b2.y
        · exact Cal.same (r := -1) h0 (eq_b e1 (eq_f (show ¬ (1 : Int32) = 0 by decide) (eq_f g (eq_f g2 (eq_f g3 rfl))))) (eq_b e2 (eq_f (show ¬ (1 : Int32) = 0 by decide) (eq_f g (eq_f g2 (eq_f g3 rfl)))))
  · exact Cal.same (r := -1) h0 (eq_b e1 (eq_t rfl rfl)) (eq_b e2 (eq_t rfl rfl))
theorem cDoing {n0 : Nat} {x y : Int32} {MX MY : Mem} (h : R n0 MX MY) : Cal n0 (fX11_doing n0 x y MX) (fX12_doing n0 x y MY) := by
  have h0 := h
  obtain ⟨q, b, T, nr, C, m, pm, s, h⟩ := h
  obtain ⟨h1, h2, h3, h4, _⟩ := id h
  unfold fX11_doing fX12_doing
  rcases isDo h1 x with ⟨k, hk, rfl, e1, e2⟩ | ⟨z, e1, e2⟩
  · have o1 := h1.2.2.2.1.2.1.2.2.1
    have hb := h1.2.2.2.2.1.2.2.1
    have h13 := h1.2.2.2.2.1.2.2.2.1
    have ck : (nI k).toNatClampNeg = k := nI_clamp (by omega)
    have cj : (nI (6 * b + k)).toNatClampNeg = 6 * b + k := nI_clamp (by omega)
    have oj : ¬ oob ((6 : Int32) * gI MY 13 + nI k) 12 := by rw [h13, y6Ix]; exact nI_in (by omega) (by decide)
    have ok : ¬ oob (nI k) 6 := nI_in (by omega) (by decide)
    have dx := h1.2.2.2.1.2.2.2.2 k hk
    have dy := h1.2.2.2.2.1.2.2.2.2.2.2.2 k hk
    by_cases g : y = 0
    · refine Cal.same (r := nI (T.dc k)) h0 (eq_b e1 (eq_f (show ¬ (1 : Int32) = 0 by decide) (eq_t g (eq_f ok ?_)))) (eq_b e2 (eq_f (show ¬ (1 : Int32) = 0 by decide) (eq_t g (eq_f oj ?_))))
      · show some (gA MX (gR MX 1 + 10) (nI k).toNatClampNeg, MX) = _
        rw [ck, h1.2.1, dx.1]
      · show some (gA MY 11 ((6 : Int32) * gI MY 13 + nI k).toNatClampNeg, MY) = _
        rw [h13, y6Ix, cj, dy.1]
    · by_cases g2 : y = 1
      · refine Cal.same (r := nI (T.dh k)) h0 (eq_b e1 (eq_f (show ¬ (1 : Int32) = 0 by decide) (eq_f g (eq_t g2 (eq_f ok ?_))))) (eq_b e2 (eq_f (show ¬ (1 : Int32) = 0 by decide) (eq_f g (eq_t g2 (eq_f oj ?_)))))
        · show some (gA MX (gR MX 1 + 11) (nI k).toNatClampNeg, MX) = _
          rw [ck, h1.2.1, dx.2]
        · show some (gA MY 12 ((6 : Int32) * gI MY 13 + nI k).toNatClampNeg, MY) = _
          rw [h13, y6Ix, cj, dy.2]
      · by_cases g3 : y = 2
        · have s64 : s.1 < 64 := Nat.lt_of_lt_of_le h2.2.2.1 (p64 o1)
          refine Cal.same (r := nI (s.1 / 2 ^ k % 2)) h0 (eq_b e1 (eq_f (show ¬ (1 : Int32) = 0 by decide) (eq_f g (eq_f g2 (eq_t g3 (eq_f ok ?_)))))) (eq_b e2 (eq_f (show ¬ (1 : Int32) = 0 by decide) (eq_f g (eq_f g2 (eq_t g3 (eq_f (by decide) (eq_b (z := (bI (s.1 / 2 ^ k % 2 = 1), MY)) ?_ ?_)))))))
          · rw [ck, h3.2.2.2.2.1 k hk]
          · show fX12_has2 n0 (gA MY 31 0) (nI k) MY = _
            rw [h4.2.1]
            exact yhas2 s64 (by omega)
          · by_cases g4 : s.1 / 2 ^ k % 2 = 1
            · exact eq_f (show ¬ bI (s.1 / 2 ^ k % 2 = 1) = 0 by rw [bI_t g4]; decide) (by rw [g4]; rfl)
            · exact eq_t (show bI (s.1 / 2 ^ k % 2 = 1) = 0 from bI_f g4) (by rw [show s.1 / 2 ^ k % 2 = 0 by omega]; rfl)
        · exact Cal.same (r := -1) h0 (eq_b e1 (eq_f (show ¬ (1 : Int32) = 0 by decide) (eq_f g (eq_f g2 (eq_f g3 rfl))))) (eq_b e2 (eq_f (show ¬ (1 : Int32) = 0 by decide) (eq_f g (eq_f g2 (eq_f g3 rfl)))))
  · exact Cal.same (r := -1) h0 (eq_b e1 (eq_t rfl rfl)) (eq_b e2 (eq_t rfl rfl))
