/-! THE FACTS LAID BY THE REFERENCE; A FORMULA'S VALUE ON BOTH SIDES -/
theorem oF {k n : Nat} (h : k < n) (hn : n < 2 ^ 31) : oob (nI k) n = False := eq_false (nI_in h hn)
theorem nz (k : Nat) : nI k = zI k := (Int32.ofInt_eq_ofNat (n := k)).symm
def yLay (w h c m e l : Int32) (M : Mem) : Mem := sA (sA (sA (sA (sA (sA M 35 1 w) 35 2 h) 35 3 c) 35 4 m) 35 5 e) 35 6 l
theorem yIx (v c : Nat) : (5 : Int32) * nI v + nI c = nI (5 * v + c) := by
  rw [show (5 : Int32) = nI 5 from rfl, nI_mul, nI_add]
theorem y6Ix (b t : Nat) : (6 : Int32) * nI b + nI t = nI (6 * b + t) := by
  rw [show (6 : Int32) = nI 6 from rfl, nI_mul, nI_add]
theorem y2Ix (b t : Nat) : (2 : Int32) * nI b + nI t = nI (2 * b + t) := by
  rw [show (2 : Int32) = nI 2 from rfl, nI_mul, nI_add]
theorem ylayT {n0 v c t b : Nat} {M : Mem} (hv : v < 22) (hc : c < 5) (hb : b ≤ 1) (h13 : gI M 13 = nI b) (ht : t < 6) (h29 : gA M 29 (5 * v + c) = nI t) : fX12_lays n0 (nI v) (nI c) M = some (yLay (gA M 3 (6 * b + t)) (gA M 30 (5 * v + c)) (nI c) (gA M 28 v) 0 (gA M 4 (6 * b + t)) M) := by
  have o1 : ¬ oob (nI (5 * v + c)) 110 := nI_in (by omega) (by decide)
  have o2 : ¬ oob (nI (6 * b + t)) 12 := nI_in (by omega) (by decide)
  have o3 : ¬ oob (nI v) 22 := nI_in (by omega) (by decide)
  have c1 : (nI (5 * v + c)).toNatClampNeg = 5 * v + c := nI_clamp (by omega)
  have c2 : (nI (6 * b + t)).toNatClampNeg = 6 * b + t := nI_clamp (by omega)
  have c3 : (nI v).toNatClampNeg = v := nI_clamp (by omega)
  have hm : ¬ nI t = -1 := nI_m1 (by omega)
  unfold fX12_lays fX12_lays_39 fX12_lays_90 fX12_lays_120
  simp only [yIx, c1, h29, h13, y6Ix, c2, c3, gI_sA]
  refine eq_f o1 (eq_n (eq_f hm (eq_f (by rw [y6Ix]; exact o2) (eq_f (by decide) (eq_n (eq_f o1 (eq_f (by decide) (eq_n (eq_f (by decide) (eq_n (eq_f o3 (eq_f (by decide) (eq_n (eq_f hm (eq_f (by decide) (eq_n (eq_f hm (eq_f ?_ (eq_f (by decide) ?_)))))))))))))))))))
  · simp only [gI_sA, h13, y6Ix]; exact o2
  · unfold yLay
    simp only [gI_sA, h13, y6Ix, c2]
    rw [gA_sA_ne (by decide), gA_sA_ne (by decide), gA_sA_ne (by decide), gA_sA_ne (by decide), gA_sA_ne (by decide), gA_sA_ne (by decide), gA_sA_ne (by decide), gA_sA_ne (by decide), gA_sA_ne (by decide)]
    rfl
theorem ylayN {n0 v c : Nat} {M : Mem} (hv : v < 22) (hc : c < 5) (h29 : gA M 29 (5 * v + c) = -1) : fX12_lays n0 (nI v) (nI c) M = some (yLay 0 (gA M 30 (5 * v + c)) (nI c) (gA M 28 v) 1 0 M) := by
  have o1 : ¬ oob (nI (5 * v + c)) 110 := nI_in (by omega) (by decide)
  have o3 : ¬ oob (nI v) 22 := nI_in (by omega) (by decide)
  have c1 : (nI (5 * v + c)).toNatClampNeg = 5 * v + c := nI_clamp (by omega)
  have c3 : (nI v).toNatClampNeg = v := nI_clamp (by omega)
  unfold fX12_lays fX12_lays_39 fX12_lays_90 fX12_lays_120
  simp only [yIx, c1, h29, c3, gI_sA]
  refine eq_f o1 (eq_n (eq_t rfl (eq_f (by decide) (eq_n (eq_f o1 (eq_f (by decide) (eq_n (eq_f (by decide) (eq_n (eq_f o3 (eq_f (by decide) (eq_n (eq_t rfl (eq_f (by decide) (eq_n (eq_t rfl (eq_f (by decide) ?_)))))))))))))))))
  unfold yLay
  rw [gA_sA_ne (by decide), gA_sA_ne (by decide), gA_sA_ne (by decide), gA_sA_ne (by decide)]
  rfl
/-- the facts laid on both sides, and a formula that is told -/
theorem valP {n0 q b C wh : Nat} {MX MY : Mem} (f : Nat → Nat) (hn : 1700 ≤ n0) (hq : q = 31 ∨ q = 47) (hb : b ≤ 1) (hwh : wh ≤ 1)
    (hF : ∃ c0 δ, 0 < δ.length ∧ c0 + δ.length ≤ C ∧ xlist MX (q + 12 + 2 * wh) (exL δ) ∧ gA MY 14 (2 * b + wh) = nI c0 ∧ gA MY 15 (2 * b + wh) = nI (c0 + δ.length) ∧ ylist MY b c0 δ ∧ tyL δ [] = some [decide (wh = 1)] ∧ (exL δ).length ≤ 1600) (hC : C ≤ 1600)
    (h13 : gI MY 13 = nI b) (hX : ∀ s, s < 6 → gA MX 8 s = nI (f s)) (hY : ∀ s, s < 6 → gA MY 35 (s + 1) = nI (f s)) (hf : ∀ s, s < 6 → f s ≤ 1000000) (h9 : gI MX 903 = 0) :
    ∃ a MX' MY', vL n0 (q + 12 + 2 * wh) n0 (nI 0) MX = some (zI a, MX') ∧ fX12_reckons n0 (nI wh) MY = some (zL a, MY') ∧ mR a ∧ (wh = 1 → bR a) ∧ VX MX MX' ∧ VY MY MY' := by
  obtain ⟨c0, δ, d1, d2, ⟨dx1, dx2⟩, d3, d4, d5, d6, d7⟩ := hF
  have hE : EvR (q + 12 + 2 * wh) b wh (c0 + δ.length) (exL δ).length [] MX MY := by
    refine ⟨by omega, by omega, dx1, d7, h9, by decide, trivial, ⟨h13, hb, hwh, d4, by omega⟩, fun s s1 s2 => ⟨f (s - 1), ?_, ?_, ?_⟩⟩
    · rw [hX _ (by omega), nz]
    · have := hY (s - 1) (by omega)
      rw [show s - 1 + 1 = s by omega] at this
      rw [this, nz]
    · have := hf (s - 1) (by omega)
      unfold mR
      omega
  obtain ⟨MX', MY', e1, e2, ⟨_, _, g1, _, g2, _, ⟨⟨a, a1, a2, a3, a4⟩, _⟩, hH, _⟩, v1, v2⟩ := evL (n0 := n0) δ [] [decide (wh = 1)] c0 0 MX MY hE d6 (by omega) rfl (fun t x hx => by
    obtain ⟨ht, rfl⟩ := List.getElem?_eq_some_iff.mp hx
    rw [Nat.zero_add]
    exact dx2 t ht) (fun t c hc => by
    obtain ⟨ht, rfl⟩ := List.getElem?_eq_some_iff.mp hc
    exact d5 t ht)
  refine ⟨a, MX', MY', ?_, ?_, a3, fun h => a4 (by rw [h]; rfl), v1, v2⟩
  · have k1 := e1 (n0 - (exL δ).length)
    rw [show n0 - (exL δ).length + (exL δ).length = n0 by omega] at k1
    rw [k1, show n0 - (exL δ).length = n0 - (exL δ).length - 1 + 1 by omega, xend (k := 1) g2 (by decide) (by rw [g1]; exact Int32.le_refl _)]
    exact congrArg (fun z => some (z, MX')) a1
  · have k1 := e2 (n0 - δ.length)
    rw [show n0 - δ.length + δ.length = n0 by omega] at k1
    unfold fX12_reckons
    have o1 : ¬ oob ((2 : Int32) * gI MY 13 + nI wh) 4 := by rw [h13, y2Ix]; exact nI_in (by omega) (by decide)
    refine eq_f o1 (eq_e (v' := nI (1600 * b + c0)) ?_ ?_)
    · rw [h13, y2Ix, nI_clamp (by omega), d3, show (1600 : Int32) = nI 1600 from rfl, nI_mul, nI_add]
    · refine Eq.trans k1 ?_
      rw [show n0 - δ.length = n0 - δ.length - 1 + 1 by omega, yend hH]
      exact congrArg (fun z => some (z, MY')) a2
