section
/-! MORE PLAIN CALLS: feed, has -/
theorem nI_div {a b : Nat} (ha : a < 2 ^ 31) (hb : b < 2 ^ 31) : nI a / nI b = nI (a / b) := by
  rw [nz, nz, nz, Int.ofNat_tdiv]
  exact (Int32.ofInt_tdiv (by show (-2147483648 : Int) ≤ a; omega) (by show (a : Int) ≤ 2147483647; omega) (by show (-2147483648 : Int) ≤ b; omega) (by show (b : Int) ≤ 2147483647; omega)).symm
theorem rem_nI {a b : Nat} (ha : a < 2 ^ 31) (hb : b < 2 ^ 31) : rem32 (nI a) (nI b) = nI (a % b) := by
  unfold rem32
  rw [nI_div ha hb, nI_mul, nI_subN (Nat.div_mul_le_self a b)]
  congr 1
  have := Nat.mod_add_div a b
  rw [Nat.mul_comm] at this
  omega
def TpR (L : Nat) (MX MY : Mem) : Prop := L ≤ 1600 ∧ gI MX 641 = nI L ∧ gI MY 1 = nI L ∧ gA MY 1 = gA MX 6 ∧ Byt (gA MX 6) L
def XTp (M M' : Mem) : Prop := gR M' = gR M ∧ (∀ k, ¬ k = 641 → gI M' k = gI M k) ∧ ∀ a, ¬ a = 6 → gA M' a = gA M a
def YTp (M M' : Mem) : Prop := gL M' = gL M ∧ (∀ k, ¬ k = 1 → gI M' k = gI M k) ∧ (∀ a, ¬ a = 1 → gA M' a = gA M a) ∧ gB M' = gB M
theorem XTp.tr {M M' M2 : Mem} (h : XTp M M') (g : XTp M' M2) : XTp M M2 := ⟨g.1.trans h.1, fun k z => (g.2.1 k z).trans (h.2.1 k z), fun k z => (g.2.2 k z).trans (h.2.2 k z)⟩
theorem YTp.tr {M M' M2 : Mem} (h : YTp M M') (g : YTp M' M2) : YTp M M2 := ⟨g.1.trans h.1, fun k z => (g.2.1 k z).trans (h.2.1 k z), fun k z => (g.2.2.1 k z).trans (h.2.2.1 k z), g.2.2.2.trans h.2.2.2⟩
abbrev xaL (n0 : Nat) : Nat → Int32 → Int32 → Mem → Option Mem := loopN (bX7_addNumber_3 n0) (fun _ _ _ => none)
abbrev ypL (n0 : Nat) : Nat → Int32 → Int32 → Mem → Option Mem := loopN (bX12_put_3 n0) (fun _ _ _ => none)
theorem put1 {n0 L : Nat} {x1 x2 : Int32} {MX MY : Mem} (h : TpR L MX MY) (hL : L < 1600) (h2 : ¬ x2 < 0) : ∃ MX' MY', (∀ w, xaL n0 (w + 1) x1 x2 MX = xaL n0 w x1 (x2 + (-8)) MX') ∧ (∀ w, ypL n0 (w + 1) x1 x2 MY = ypL n0 w x1 (x2 + (-8)) MY') ∧ TpR (L + 1) MX' MY' ∧ XTp MX MX' ∧ YTp MY MY' := by
  obtain ⟨l1, l2, l3, l4, l5⟩ := h
  have cL : (nI L).toNatClampNeg = L := nI_clamp (by omega)
  have L1 : nI L + 1 = nI (L + 1) := nI_add L 1
  refine ⟨sI (sA MX 6 L ((x1 >>> (x2 &&& 31)) &&& 255)) 641 (nI (L + 1)), sI (sA MY 1 L ((x1 >>> (x2 &&& 31)) &&& 255)) 1 (nI (L + 1)), fun w => ?_, fun w => ?_, ⟨by omega, gI_at, gI_at, ?_, fun i hi => ?_⟩, ⟨rfl, fun k z => gI_ne z, fun a z => gA_sA_ne z⟩, ⟨rfl, fun k z => gI_ne z, fun a z => gA_sA_ne z, rfl⟩⟩
  · show bX7_addNumber_3 n0 (xaL n0 w) x1 x2 MX = _
    unfold bX7_addNumber_3
    refine eq_f h2 (eq_f (by rw [l2]; exact nI_ge (b := 1600) hL (by decide)) (eq_f (by rw [l2]; exact nI_in hL (by decide)) ?_))
    unfold fX7_addNumber_43
    simp only [bnd, gI_sA, l2, cL, L1]
  · show bX12_put_3 n0 (ypL n0 w) x1 x2 MY = _
    unfold bX12_put_3
    refine eq_f h2 (eq_f (by rw [l3]; exact nI_in (by omega) (by decide)) ?_)
    simp only [bnd, gI_sA, l3, cL, L1]
  · show gA (sA MY 1 L _) 1 = gA (sA MX 6 L _) 6
    funext i
    rw [gA_sA, if_pos rfl, gA_sA, if_pos rfl, l4]
  · show 0 ≤ gA (sA MX 6 L _) 6 i ∧ gA (sA MX 6 L _) 6 i ≤ 255
    rw [gA_sA, if_pos rfl]
    by_cases g : i = L
    · rw [if_pos g]
      obtain ⟨k, hk, e⟩ := n255 (x1 >>> (x2 &&& 31))
      rw [e]
      exact ⟨nI_le (a := 0) (by omega) (by omega), nI_le (b := 255) (by omega) (by decide)⟩
    · rw [if_neg g]
      exact l5 i (by omega)
theorem num1 {n0 L : Nat} {x : Int32} {MX MY : Mem} (hn : 1700 ≤ n0) (h : TpR L MX MY) (hL : L + 4 ≤ 1600) : ∃ MX' MY', fX7_addNumber n0 x MX = some MX' ∧ fX12_put n0 x MY = some MY' ∧ TpR (L + 4) MX' MY' ∧ XTp MX MX' ∧ YTp MY MY' := by
  obtain ⟨w, rfl⟩ : ∃ w, n0 = w + 5 := ⟨n0 - 5, by omega⟩
  obtain ⟨X1, Y1, a1, a2, a3, a4, a5⟩ := put1 (n0 := w + 5) (x1 := x) (x2 := 24) h (by omega) (by decide)
  obtain ⟨X2, Y2, b1, b2, b3, b4, b5⟩ := put1 (n0 := w + 5) (x1 := x) (x2 := 24 + (-8)) a3 (by omega) (by decide)
  obtain ⟨X3, Y3, c1, c2, c3, c4, c5⟩ := put1 (n0 := w + 5) (x1 := x) (x2 := 24 + (-8) + (-8)) b3 (by omega) (by decide)
  obtain ⟨X4, Y4, d1, d2, d3, d4, d5⟩ := put1 (n0 := w + 5) (x1 := x) (x2 := 24 + (-8) + (-8) + (-8)) c3 (by omega) (by decide)
  refine ⟨X4, Y4, ?_, ?_, d3, a4.tr (b4.tr (c4.tr d4)), a5.tr (b5.tr (c5.tr d5))⟩
  · show xaL (w + 5) (w + 4 + 1) x 24 MX = _
    rw [a1 (w + 4), b1 (w + 3), c1 (w + 2), d1 (w + 1)]
    show bX7_addNumber_3 (w + 5) (xaL (w + 5) w) x _ X4 = _
    unfold bX7_addNumber_3
    exact eq_t (by decide) rfl
  · show ypL (w + 5) (w + 4 + 1) x 24 MY = _
    rw [a2 (w + 4), b2 (w + 3), c2 (w + 2), d2 (w + 1)]
    show bX12_put_3 (w + 5) (ypL (w + 5) w) x _ Y4 = _
    unfold bX12_put_3
    exact eq_t (by decide) rfl
theorem cFeed {n0 : Nat} {x1 x2 x3 x4 x5 : Int32} {MX MY : Mem} (hn : 1700 ≤ n0) (h : R n0 MX MY) : Cal n0 (fX11_feed n0 x1 x2 x3 x4 x5 MX) (fX12_feed n0 x1 x2 x3 x4 x5 MY) := by
  have h0 := h
  obtain ⟨q, b, T, nr, C, m, pm, s, h⟩ := h
  have ho := h.2.2.2.2.2.2
  obtain ⟨L, l⟩ := ho.2.2.2.2.1
  have e20 : nI L + 20 = nI (L + 20) := nI_add L 20
  have l1 := l.1
  unfold fX11_feed fX12_feed
  by_cases g : L + 20 ≤ 1600
  · obtain ⟨X1, Y1, a1, a2, a3, a4, a5⟩ := num1 (x := x1) hn l (by omega)
    obtain ⟨X2, Y2, b1, b2, b3, b4, b5⟩ := num1 (x := x2) hn a3 (by omega)
    obtain ⟨X3, Y3, c1, c2, c3, c4, c5⟩ := num1 (x := x3) hn b3 (by omega)
    obtain ⟨X4, Y4, d1, d2, d3, d4, d5⟩ := num1 (x := x4) hn c3 (by omega)
    obtain ⟨X5, Y5, e1, e2, e3, e4, e5⟩ := num1 (x := x5) hn d3 (by omega)
    have fx := a4.tr (b4.tr (c4.tr (d4.tr e4)))
    have fy := a5.tr (b5.tr (c5.tr (d5.tr e5)))
    have er : fX7_hasRoomFor n0 20 MX = some (1, MX) := by
      unfold fX7_hasRoomFor
      rw [l.2.1, e20]
      exact eq_f (fun z => by have := (nI_ltI (a := 1600) (b := L + 20) (by decide) (by omega)).mp z; omega) rfl
    refine ⟨nI (L + 20), X5, Y5, ?_, ?_, q, b, T, nr, C, m, pm, s, h.ou ⟨fx.1, fun k z => fx.2.1 k (by omega), fun a z => fx.2.2 a (by omega)⟩ ⟨fun k z => fy.2.1 k (by omega), fun a z => fy.2.2.1 a (by omega), fy.2.2.2⟩ ⟨ho.1.cg (fx.2.1 17 (by decide)) (by rw [fy.1]), ho.2.1.cg (fx.2.1 14 (by decide)) (fy.2.1 67 (by decide)) (fx.2.2 29 (by decide)) (fy.2.2.1 43 (by decide)), ho.2.2.1.cg (fx.2.2 30 (by decide)) (fy.2.2.1 27 (by decide)), ho.2.2.2.1.cg (fx.2.1 15 (by decide)) (fx.2.1 16 (by decide)) (fy.2.1 10 (by decide)) (fy.2.1 11 (by decide)), ⟨_, e3⟩, ho.2.2.2.2.2.cg (fx.2.2 4 (by decide))⟩⟩
    · refine eq_b er (eq_f (show ¬ (1 : Int32) = 0 by decide) (eq_b a1 (eq_b b1 (eq_b c1 (eq_b d1 (eq_b e1 ?_))))))
      rw [e3.2.1]
    · refine eq_t (by rw [l.2.2.1, e20]; exact nI_le (b := 1600) g (by decide)) (eq_b a2 (eq_b b2 (eq_b c2 (eq_b d2 (eq_b e2 ?_)))))
      rw [e3.2.2.1]
  · have er : fX7_hasRoomFor n0 20 MX = some (0, MX) := by
      unfold fX7_hasRoomFor
      rw [l.2.1, e20]
      exact eq_t (nI_lt (a := 1600) (by omega) (by omega)) rfl
    exact Cal.ref (k := 0) (r := -1) h0 (by decide) (eq_b er (eq_t rfl (eq_b (xref (k := 0) (by decide)) rfl))) (eq_f (by rw [l.2.2.1, e20]; exact nI_ge (b := L + 20) (a := 1600) (by omega) (by omega)) (eq_b (yref (k := 0) (by decide)) rfl))
-- how many are done
def sm (D : Nat) : Nat → Nat
  | 0 => 0
  | d + 1 => sm D d + D / 2 ^ d % 2
theorem sm_pc : ∀ n, n < 7 → ∀ D, D < 2 ^ n → sm D n = pc D := by decide +kernel
theorem sm_le (D : Nat) : ∀ d, sm D d ≤ d
  | 0 => Nat.le_refl _
  | d + 1 => by
    have := sm_le D d
    show sm D d + D / 2 ^ d % 2 ≤ d + 1
    omega
theorem bt_clr : ∀ D, D < 64 → ¬ D = 0 → nI D &&& (nI D - 1) = nI (D &&& (D - 1)) ∧ (D &&& (D - 1)) < 64 ∧ pc D = pc (D &&& (D - 1)) + 1 := by decide +kernel
theorem ybits {n0 : Nat} {M : Mem} : ∀ w a D, D < 64 → pc D < w → loopN (bX12_bits_4 n0) (fun _ _ _ => none) w (nI a) (nI D) M = some (nI (a + pc D), M)
  | 0, _, _, _, h => by omega
  | w + 1, a, D, hD, h => by
    show bX12_bits_4 n0 (loopN (bX12_bits_4 n0) (fun _ _ _ => none) w) (nI a) (nI D) M = _
    unfold bX12_bits_4
    by_cases g : D = 0
    · rw [g]
      exact eq_t rfl rfl
    · obtain ⟨c1, c2, c3⟩ := bt_clr D hD g
      refine eq_f (nI_ne0 (by omega) (by omega)) (eq_e c1 ?_)
      rw [show nI a + 1 = nI (a + 1) from nI_add a 1, show a + pc D = a + 1 + pc (D &&& (D - 1)) by omega]
      exact ybits (n0 := n0) w (a + 1) (D &&& (D - 1)) c2 (by omega)
theorem xcd {n0 q m : Nat} {T : TP} {pm : Nat → Int32 × Nat} {s : Nat × List (Nat × Nat)} {M : Mem} (hT : XT n0 q T M) (hS : SX q T.nc T.nd m pm s M) : ∀ w d, d ≤ T.nd → T.nd < w + d → loopN (bX6_countDone_4 n0) (fun _ _ _ => none) w (nI (sm s.1 d)) (nI d) M = some (nI (sm s.1 T.nd), M)
  | 0, _, _, h => by omega
  | w + 1, d, hd, h => by
    show bX6_countDone_4 n0 (loopN (bX6_countDone_4 n0) (fun _ _ _ => none) w) _ (nI d) M = _
    have h6 := hT.2.1.2.2.1
    have q12 : gI M (128 * gR M 1280 + 12) = nI T.nd := by rw [hS.2.1]; exact hT.2.2.2.1
    unfold bX6_countDone_4
    by_cases g : d = T.nd
    · rw [g]
      exact eq_t (by rw [q12]; exact Int32.le_refl _) rfl
    · refine eq_f (by rw [q12]; exact nI_ge (by omega) (by omega)) (eq_f (nI_in (by omega) (by decide)) (eq_e (v' := nI (sm s.1 (d + 1))) ?_ ?_))
      · rw [nI_clamp (by omega), hS.2.2.2.2.1 d (by omega), nI_add]
        rfl
      · rw [show nI d + 1 = nI (d + 1) from nI_add d 1]
        exact xcd hT hS w (d + 1) (by omega) (by omega)
def ce (pm : Nat → Int32 × Nat) : Nat → Nat
  | 0 => 0
  | c + 1 => ce pm c + if (pm c).1 = -1 then 1 else 0
theorem xce {n0 q m : Nat} {T : TP} {pm : Nat → Int32 × Nat} {s : Nat × List (Nat × Nat)} {M : Mem} (hT : XT n0 q T M) (hS : SX q T.nc T.nd m pm s M) : ∀ w c, c ≤ T.nc → T.nc < w + c → loopN (bX6_countEmpty_4 n0) (fun _ _ _ => none) w (nI (ce pm c)) (nI c) M = some (nI (ce pm T.nc), M)
  | 0, _, _, h => by omega
  | w + 1, c, hc, h => by
    show bX6_countEmpty_4 n0 (loopN (bX6_countEmpty_4 n0) (fun _ _ _ => none) w) _ (nI c) M = _
    have h5 := hT.2.1.2.1
    have q5 : gI M (128 * gR M 1280 + 5) = nI T.nc := by rw [hS.2.1]; exact hT.2.2.1
    unfold bX6_countEmpty_4
    by_cases g : c = T.nc
    · rw [g]
      exact eq_t (by rw [q5]; exact Int32.le_refl _) rfl
    · have cc : (nI c).toNatClampNeg = c := nI_clamp (by omega)
      have ih := xce hT hS w (c + 1) (by omega) (by omega)
      have p := (hS.2.2.2.1 c (by omega)).1
      refine eq_f (by rw [q5]; exact nI_ge (by omega) (by omega)) (eq_f (nI_in (by omega) (by decide)) ?_)
      unfold fX6_countEmpty_28
      rw [show nI c + 1 = nI (c + 1) from nI_add c 1]
      by_cases g2 : (pm c).1 = -1
      · refine eq_t (by rw [cc, p]; exact g2) ?_
        rw [show nI (ce pm c) + 1 = nI (ce pm (c + 1)) by rw [show ce pm (c + 1) = ce pm c + 1 by show ce pm c + _ = _; rw [if_pos g2]]; exact nI_add _ 1]
        exact ih
      · refine eq_f (by rw [cc, p]; exact g2) ?_
        rw [show ce pm (c + 1) = ce pm c by show ce pm c + _ = _; rw [if_neg g2]; rfl] at ih
        exact ih
theorem yce {n0 b m : Nat} {T : TP} {pm : Nat → Int32 × Nat} {M : Mem} (hT : YT n0 b T M) (hL : Ly 0 T.nc m pm M) : ∀ w c, c ≤ T.nc → T.nc < w + c → loopN (bX12_has_119 n0) (fun _ _ _ => none) w (nI (ce pm c)) (nI c) M = some (nI (ce pm T.nc), M)
  | 0, _, _, h => by omega
  | w + 1, c, hc, h => by
    show bX12_has_119 n0 (loopN (bX12_has_119 n0) (fun _ _ _ => none) w) _ (nI c) M = _
    have h5 := hT.2.1.2.1
    have hb := hT.2.2.1
    have q5 : gA M 5 (gI M 13).toNatClampNeg = nI T.nc := by rw [hT.2.2.2.1, nI_clamp (by omega)]; exact hT.2.2.2.2.2.1
    have o13 : ¬ oob (gI M 13) 2 := by rw [hT.2.2.2.1]; exact nI_in (by omega) (by decide)
    unfold bX12_has_119
    by_cases g : c = T.nc
    · rw [g]
      exact eq_f o13 (eq_t (by rw [q5]; exact Int32.le_refl _) rfl)
    · have cc : (nI c).toNatClampNeg = c := nI_clamp (by omega)
      have ih := yce hT hL w (c + 1) (by omega) (by omega)
      have p := (hL.2 c (by omega)).1
      rw [show 5 * 0 + c = c by omega] at p
      refine eq_f o13 (eq_f (by rw [q5]; exact nI_ge (by omega) (by omega)) (eq_f (nI_in (by omega) (by decide)) ?_))
      unfold fX12_has_148
      rw [show nI c + 1 = nI (c + 1) from nI_add c 1]
      by_cases g2 : (pm c).1 = -1
      · refine eq_t (by rw [cc, p]; exact g2) (eq_e (v' := nI (ce pm (c + 1))) ?_ ih)
        rw [show ce pm (c + 1) = ce pm c + 1 by show ce pm c + _ = _; rw [if_pos g2]]
        exact nI_add _ 1
      · refine eq_f (by rw [cc, p]; exact g2) (eq_e (v' := nI (ce pm (c + 1))) ?_ ih)
        rw [show ce pm (c + 1) = ce pm c + 0 by show ce pm c + _ = _; rw [if_neg g2]]
        exact nI_add _ 0
theorem cHas {n0 : Nat} {x : Int32} {MX MY : Mem} (hn : 1700 ≤ n0) (h : R n0 MX MY) : Cal n0 (fX11_has n0 x MX) (fX12_has n0 x MY) := by
  have h0 := h
  obtain ⟨q, b, T, nr, C, m, pm, s, h⟩ := h
  obtain ⟨h1, h2, h3, h4, h5, h6, h7⟩ := id h
  obtain ⟨o1, o2, o3, _⟩ := h1.2.2.2.1.2.1
  have hb := h1.2.2.2.2.1.2.2.1
  have h13 := h1.2.2.2.2.1.2.2.2.1
  have cb : (gI MY 13).toNatClampNeg = b := by rw [h13]; exact nI_clamp (by omega)
  have o13 : ¬ oob (gI MY 13) 2 := by rw [h13]; exact nI_in (by omega) (by decide)
  have r1 := h1.2.1
  unfold fX11_has fX12_has
  rw [r1]
  by_cases g0 : x = 0
  · exact Cal.same (r := nI T.nt) h0 (eq_t g0 (by rw [h1.2.2.2.1.1.2.2.1])) (eq_t g0 (eq_f o13 (by rw [cb, h1.2.2.2.2.1.2.2.2.2.1])))
  by_cases g1 : x = 1
  · exact Cal.same (r := nI T.nc) h0 (eq_f g0 (eq_t g1 (by rw [h1.2.2.2.1.2.2.1]))) (eq_f g0 (eq_t g1 (eq_f o13 (by rw [cb, h1.2.2.2.2.1.2.2.2.2.2.1]))))
  by_cases g2 : x = 2
  · exact Cal.same (r := nI nr) h0 (eq_f g0 (eq_f g1 (eq_t g2 (by rw [h1.2.2.2.2.2.1.2.2.2.2.1.1])))) (eq_f g0 (eq_f g1 (eq_t g2 (eq_f o13 (by rw [cb, h1.2.2.2.2.2.1.2.2.2.2.1.2.1])))))
  by_cases g3 : x = 3
  · exact Cal.same (r := nI T.nd) h0 (eq_f g0 (eq_f g1 (eq_f g2 (eq_t g3 (by rw [h1.2.2.2.1.2.2.2.1]))))) (eq_f g0 (eq_f g1 (eq_f g2 (eq_t g3 (eq_f o13 (by rw [cb, h1.2.2.2.2.1.2.2.2.2.2.2.1]))))))
  by_cases g4 : x = 4
  · exact Cal.same (r := nI m) h0 (eq_f g0 (eq_f g1 (eq_f g2 (eq_f g3 (eq_t g4 (by rw [h3.2.2.1])))))) (eq_f g0 (eq_f g1 (eq_f g2 (eq_f g3 (eq_t g4 (eq_f (by decide) (by rw [show gA MY 28 (Int32.toNatClampNeg 0) = nI m from h4.1.1])))))))
  by_cases g5 : x = 5
  · have s64 : s.1 < 64 := Nat.lt_of_lt_of_le h2.2.2.1 (p64 o3)
    have e1 : fX6_countDone n0 MX = some (nI (sm s.1 T.nd), MX) := xcd h1.2.2.2.1 h3 n0 0 (by omega) (by omega)
    have pl := pc_le s.1
    have e2 : fX12_bits n0 (nI s.1) MY = some (nI (0 + pc s.1), MY) := ybits n0 0 s.1 s64 (by omega)
    rw [sm_pc T.nd (by omega) s.1 h2.2.2.1] at e1
    rw [Nat.zero_add] at e2
    exact Cal.same (r := nI (pc s.1)) h0 (eq_f g0 (eq_f g1 (eq_f g2 (eq_f g3 (eq_f g4 (eq_t g5 (eq_b e1 rfl))))))) (eq_f g0 (eq_f g1 (eq_f g2 (eq_f g3 (eq_f g4 (eq_t g5 (eq_f (by decide) (eq_b (by rw [show gA MY 31 (Int32.toNatClampNeg 0) = nI s.1 from h4.2.1]; exact e2) rfl))))))))
  by_cases g6 : x = 6
  · have e1 : fX6_countEmpty n0 MX = some (nI (ce pm T.nc), MX) := xce h1.2.2.2.1 h3 n0 0 (by omega) (by omega)
    have e2 : fX12_has_119 n0 0 0 MY = some (nI (ce pm T.nc), MY) := yce h1.2.2.2.2.1 h4.1 n0 0 (by omega) (by omega)
    exact Cal.same (r := nI (ce pm T.nc)) h0 (eq_f g0 (eq_f g1 (eq_f g2 (eq_f g3 (eq_f g4 (eq_f g5 (eq_t g6 (eq_b e1 rfl)))))))) (eq_f g0 (eq_f g1 (eq_f g2 (eq_f g3 (eq_f g4 (eq_f g5 (eq_t g6 e2)))))))
  by_cases g7 : x = 7
  · exact Cal.same (r := nI s.2.length) h0 (eq_f g0 (eq_f g1 (eq_f g2 (eq_f g3 (eq_f g4 (eq_f g5 (eq_f g6 (eq_t g7 (by rw [h3.2.2.2.2.2.1]))))))))) (eq_f g0 (eq_f g1 (eq_f g2 (eq_f g3 (eq_f g4 (eq_f g5 (eq_f g6 (eq_t g7 (eq_f (by decide) (by rw [show gA MY 32 (Int32.toNatClampNeg 0) = nI s.2.length from h4.2.2.1]))))))))))
  by_cases g8 : x = 8
  · obtain ⟨n, n1, n2, n3, _⟩ := h6
    exact Cal.same (r := nI n) h0 (eq_f g0 (eq_f g1 (eq_f g2 (eq_f g3 (eq_f g4 (eq_f g5 (eq_f g6 (eq_f g7 (eq_t g8 (by rw [n2])))))))))) (eq_f g0 (eq_f g1 (eq_f g2 (eq_f g3 (eq_f g4 (eq_f g5 (eq_f g6 (eq_f g7 (eq_t g8 (by rw [n3]))))))))))
  by_cases g9 : x = 9
  · obtain ⟨x0, f, u, e, a1, a2, a3, a4, a5, a6, a7, _⟩ := h5
    exact Cal.same (r := nI u) h0 (eq_f g0 (eq_f g1 (eq_f g2 (eq_f g3 (eq_f g4 (eq_f g5 (eq_f g6 (eq_f g7 (eq_f g8 (eq_t g9 (by rw [a5]))))))))))) (eq_f g0 (eq_f g1 (eq_f g2 (eq_f g3 (eq_f g4 (eq_f g5 (eq_f g6 (eq_f g7 (eq_f g8 (eq_t g9 (by rw [a7])))))))))))
  by_cases g10 : x = 10
  · obtain ⟨z, z1, z2, z3⟩ := h7.1
    exact Cal.same (r := nI z) h0 (eq_f g0 (eq_f g1 (eq_f g2 (eq_f g3 (eq_f g4 (eq_f g5 (eq_f g6 (eq_f g7 (eq_f g8 (eq_f g9 (eq_t g10 (by rw [z2])))))))))))) (eq_f g0 (eq_f g1 (eq_f g2 (eq_f g3 (eq_f g4 (eq_f g5 (eq_f g6 (eq_f g7 (eq_f g8 (eq_f g9 (eq_t g10 (by rw [z3, zL_int (by omega) (by omega), nz]))))))))))))
  exact Cal.same (r := -1) h0 (eq_f g0 (eq_f g1 (eq_f g2 (eq_f g3 (eq_f g4 (eq_f g5 (eq_f g6 (eq_f g7 (eq_f g8 (eq_f g9 (eq_f g10 rfl))))))))))) (eq_f g0 (eq_f g1 (eq_f g2 (eq_f g3 (eq_f g4 (eq_f g5 (eq_f g6 (eq_f g7 (eq_f g8 (eq_f g9 (eq_f g10 rfl)))))))))))
end
section
/-! THE PAST: an act is remembered, and undone -/
theorem ln63 : ∀ j, j < 20 → LX.ln (63 + j) = 18 := by decide +kernel
def XP (p : Nat) (M M' : Mem) : Prop := gR M' = gR M ∧ gL M' = gL M ∧ gB M' = gB M ∧ (∀ k, ¬ (k = 2049 ∨ k = 2050) → gI M' k = gI M k) ∧ ∀ a, ¬ a = p → gA M' a = gA M a
theorem xsave {n0 p : Nat} {M : Mem} (hl : LX.ln p = 18) (hp : 63 ≤ p) : ∃ M', fX6_save n0 p M = some M' ∧ gA M' p 0 = gI M 1281 ∧ gA M' p 1 = gI M 1285 ∧ (∀ c, c < 5 → gA M' p (2 + c) = gA M 11 c ∧ gA M' p (7 + c) = gA M 12 c) ∧ (∀ d, d < 6 → gA M' p (12 + d) = gA M 13 d) ∧ gI M' = gI M ∧ gR M' = gR M ∧ gL M' = gL M ∧ gB M' = gB M ∧ ∀ a, ¬ a = p → gA M' a = gA M a := by
  have n11 : ¬ 11 = p := by omega
  have n12 : ¬ 12 = p := by omega
  have n13 : ¬ 13 = p := by omega
  have hM2 : ∃ M2, M2 = sA (sA M p 0 (gI M 1281)) p 1 (gI M 1285) := ⟨_, rfl⟩
  obtain ⟨M2, e2⟩ := hM2
  have v0 : gA M2 p 0 = gI M 1281 := by rw [e2, gA_sA, if_pos rfl, if_neg (by decide), gA_sA, if_pos rfl, if_pos rfl]
  have v1 : gA M2 p 1 = gI M 1285 := by rw [e2, gA_sA, if_pos rfl, if_pos rfl]
  have vo : ∀ a, ¬ a = p → gA M2 a = gA M a := fun a z => by rw [e2, gA_sA_ne z, gA_sA_ne z]
  have so : ∀ (N : Mem) (f : Nat → Int32) (a : Nat), ¬ a = p → gA (sF N p f) a = gA N a := fun N f a z => by
    funext j
    rw [gA_sF, if_neg z]
  have sp : ∀ (N : Mem) (f : Nat → Int32), gA (sF N p f) p = f := fun N f => by
    funext j
    rw [gA_sF, if_pos rfl]
  have hM3 : ∃ M3, M3 = sF M2 p (va_cpy (gA M2 11) (gA M2 p) 0 2 5) := ⟨_, rfl⟩
  obtain ⟨M3, e3⟩ := hM3
  have hM4 : ∃ M4, M4 = sF M3 p (va_cpy (gA M3 12) (gA M3 p) 0 7 5) := ⟨_, rfl⟩
  obtain ⟨M4, e4⟩ := hM4
  have hM5 : ∃ M5, M5 = sF M4 p (va_cpy (gA M4 13) (gA M4 p) 0 12 6) := ⟨_, rfl⟩
  obtain ⟨M5, e5⟩ := hM5
  have o3 : ∀ a, ¬ a = p → gA M3 a = gA M a := fun a z => by rw [e3, so _ _ a z, vo a z]
  have o4 : ∀ a, ¬ a = p → gA M4 a = gA M a := fun a z => by rw [e4, so _ _ a z, o3 a z]
  have o5 : ∀ a, ¬ a = p → gA M5 a = gA M a := fun a z => by rw [e5, so _ _ a z, o4 a z]
  have p3 : gA M3 p = va_cpy (gA M 11) (gA M2 p) 0 2 5 := by rw [e3, sp, vo 11 n11]
  have p4 : gA M4 p = va_cpy (gA M 12) (gA M3 p) 0 7 5 := by rw [e4, sp, o3 12 n12]
  have p5 : gA M5 p = va_cpy (gA M 13) (gA M4 p) 0 12 6 := by rw [e5, sp, o4 13 n13]
  refine ⟨M5, ?_, ?_, ?_, fun c hc => ⟨?_, ?_⟩, fun d hd => ?_, ?_, ?_, ?_, ?_, o5⟩
  · unfold fX6_save
    refine eq_t (by rw [hl]; decide) (eq_f (by rw [hl]; decide) (eq_n (eq_f (by rw [hl]; decide) (eq_e (v' := M2) (by rw [e2]; rfl) (eq_f (by rw [hl]; decide) (eq_e (v' := M3) (by rw [e3]; rfl) (eq_f (by rw [hl]; decide) (eq_e (v' := M4) (by rw [e4]; rfl) (eq_f (by rw [hl]; decide) ?_)))))))))
    rw [e5]
    rfl
  · rw [p5]; unfold va_cpy; rw [if_neg (by omega), p4]; unfold va_cpy; rw [if_neg (by omega), p3]; unfold va_cpy; rw [if_neg (by omega)]; exact v0
  · rw [p5]; unfold va_cpy; rw [if_neg (by omega), p4]; unfold va_cpy; rw [if_neg (by omega), p3]; unfold va_cpy; rw [if_neg (by omega)]; exact v1
  · rw [p5]; unfold va_cpy; rw [if_neg (by omega), p4]; unfold va_cpy; rw [if_neg (by omega), p3]; unfold va_cpy; rw [if_pos (by omega)]; congr 1; omega
  · rw [p5]; unfold va_cpy; rw [if_neg (by omega), p4]; unfold va_cpy; rw [if_pos (by omega)]; congr 1; omega
  · rw [p5]; unfold va_cpy; rw [if_pos (by omega)]; congr 1; omega
  · rw [e5, e4, e3, e2]; rfl
  · rw [e5, e4, e3, e2]; rfl
  · rw [e5, e4, e3, e2]; rfl
  · rw [e5, e4, e3, e2]; rfl
theorem xrem {n0 q m nx u : Nat} {T : TP} {pm : Nat → Int32 × Nat} {s : Nat × List (Nat × Nat)} {M : Mem} (hok : T.ok) (hS : SX q T.nc T.nd m pm s M) (hnx : nx < 20) (hu : u ≤ 20) (h1 : gI M 2049 = nI nx) (h2 : gI M 2050 = nI u) : ∃ M', fX2_remember n0 M = some M' ∧ gI M' 2049 = nI ((nx + 1) % 20) ∧ gI M' 2050 = nI (min 20 (u + 1)) ∧ RowX (63 + nx) T m s.2.length s.1 pm M' ∧ XP (63 + nx) M M' := by
  obtain ⟨M1, e1, e2, e3, e4, e5, e6, e7, e8, e9, e10⟩ := xsave (n0 := n0) (M := M) (ln63 nx hnx) (by omega)
  have cx : (nI nx).toNatClampNeg = nx := nI_clamp (by omega)
  have h5 := hok.2.1
  have h6 := hok.2.2.1
  refine ⟨sI (sI M1 2049 (nI ((nx + 1) % 20))) 2050 (nI (min 20 (u + 1))), ?_, by rw [gI_ne (by decide), gI_at], gI_at, ⟨?_, ?_, fun c hc => ?_, fun d hd => ?_⟩, ⟨e7, e8, e9, fun k z => by rw [gI_ne (by omega), gI_ne (by omega), e6], fun a z => e10 a z⟩⟩
  · unfold fX2_remember
    refine eq_f (by rw [h1]; exact nI_in hnx (by decide)) (eq_b (z := M1) (by rw [h1, cx]; exact e1) (eq_f (by decide) (eq_e (v' := sI M1 2049 (nI ((nx + 1) % 20))) ?_ ?_)))
    · rw [e6, h1, show nI nx + 1 = nI (nx + 1) from nI_add nx 1, show (20 : Int32) = nI 20 from rfl, rem_nI (by omega) (by decide)]
    · rw [gI_ne (by decide), e6, h2, show nI u + 1 = nI (u + 1) from nI_add u 1, show (20 : Int32) = nI 20 from rfl, imin_nI (by decide) (by omega)]
  · exact e2.trans hS.2.2.1
  · exact e3.trans hS.2.2.2.2.2.1
  · have := e4 c (by omega)
    have p := hS.2.2.2.1 c hc
    exact ⟨this.1.trans p.1, this.2.trans p.2⟩
  · exact (e5 d (by omega)).trans (hS.2.2.2.2.1 d hd)
theorem yslot {n0 f k : Nat} {M : Mem} (hf : f < 20) (hk : k ≤ 20) (h : gI M 53 = nI f) : fX12_slot n0 (nI k) M = some (nI (2 + (f + k) % 20), M) := by
  unfold fX12_slot
  refine eq_f (by decide) ?_
  rw [h, nI_add, show (20 : Int32) = nI 20 from rfl, rem_nI (by omega) (by decide), show (2 : Int32) = nI 2 from rfl, nI_add]
/-- what is kept of an act by the reference -/
theorem ykp {n0 b m f u : Nat} {T : TP} {pm : Nat → Int32 × Nat} {s : Nat × List (Nat × Nat)} {M : Mem} (hn : 1700 ≤ n0) (hok : T.ok) (hL : LyD 0 T.nc m pm s M) (hs : sOk T.nd s) (hf : f < 20) (hu : u < 20) (h1 : gI M 53 = nI f) (h2 : gI M 54 = nI u) : ∃ M', fX12_keeps_32 n0 M = some M' ∧ LyD (2 + (f + u) % 20) T.nc m pm s M' ∧ gI M' 54 = nI (u + 1) ∧ (∀ k, ¬ k = 54 → gI M' k = gI M k) ∧ gL M' = gL M ∧ gR M' = gR M ∧ (∀ a i, ¬ a = 35 → ¬ lP (2 + (f + u) % 20) a i → gA M' a i = gA M a i) ∧ ∀ a, ¬ a = 34 → gB M' a = gB M a := by
  have hl := hs.l
  obtain ⟨M1, e1, e2, e3⟩ := ycopyD (n0 := n0) (v := 2 + (f + u) % 20) (u := 0) hn (by omega) (by decide) (by omega) hok.2.1 (by omega) hL
  refine ⟨sI M1 54 (nI (u + 1)), ?_, e2, gI_at, fun k z => by rw [gI_ne z, e3.2.2.1], e3.2.1, e3.1, e3.2.2.2.1, e3.2.2.2.2⟩
  unfold fX12_keeps_32
  refine eq_b (z := (nI (2 + (f + u) % 20), M)) (by rw [h2]; exact yslot hf (by omega) h1) (eq_b e1 ?_)
  rw [e3.2.2.1, h2, show nI u + 1 = nI (u + 1) from nI_add u 1]
theorem take_full {α : Type} {K : List α} : K.take K.length = K := List.take_length
theorem RT.cgs {n0 q b : Nat} {T : TP} {nr C : Nat} {MX MY MX' MY' : Mem} (h : RT n0 q b T nr C MX MY) (h1 : gR MX' = gR MX) (h2 : ∀ k, 3968 ≤ k → gI MX' k = gI MX k) (h3 : ∀ a, 31 ≤ a → a < 63 → gA MX' a = gA MX a) (h4 : gI MY' 13 = gI MY 13) (h5 : ∀ a, 2 ≤ a → a ≤ 17 → gA MY' a = gA MY a) (h6 : ∀ a, 18 ≤ a → a ≤ 20 → gB MY' a = gB MY a) : RT n0 q b T nr C MX' MY' := by
  have hq := h.1
  exact h.tw ⟨fun j z1 z2 => h2 j (by omega), fun a z1 z2 => h3 a (by omega) (by omega)⟩ (yTw.all h5 h6) h4 (by rw [h1]) (by rw [h1])
theorem SX.cgs {q nc nd m : Nat} {pm : Nat → Int32 × Nat} {s : Nat × List (Nat × Nat)} {M M' : Mem} (h : SX q nc nd m pm s M) (h1 : gR M' = gR M) (h2 : gI M' 1281 = gI M 1281) (h3 : gI M' 1285 = gI M 1285) (h4 : ∀ a, 11 ≤ a → a ≤ 15 → gA M' a = gA M a) : SX q nc nd m pm s M' := by
  refine ⟨by rw [h1]; exact h.1, by rw [h1]; exact h.2.1, h2.trans h.2.2.1, fun c hc => ?_, fun d hd => ?_, h3.trans h.2.2.2.2.2.1, fun i p hp => ?_⟩
  · rw [h4 11 (by decide) (by decide), h4 12 (by decide) (by decide)]; exact h.2.2.2.1 c hc
  · rw [h4 13 (by decide) (by decide)]; exact h.2.2.2.2.1 d hd
  · rw [h4 14 (by decide) (by decide), h4 15 (by decide) (by decide)]; exact h.2.2.2.2.2.2 i p hp
theorem RO.cgs {MX MY MX' MY' : Mem} (h : RO MX MY) (h1 : ∀ k, (14 ≤ k ∧ k ≤ 17) ∨ k = 641 → gI MX' k = gI MX k) (h2 : ∀ a, a = 4 ∨ a = 6 ∨ a = 29 ∨ a = 30 → gA MX' a = gA MX a) (h3 : ∀ k, k = 1 ∨ k = 10 ∨ k = 11 ∨ k = 67 → gI MY' k = gI MY k) (h4 : ∀ a, a = 1 ∨ a = 27 ∨ a = 43 → gA MY' a = gA MY a) (h5 : gL MY' 55 = gL MY 55) : RO MX' MY' := by
  obtain ⟨a1, a2, a3, a4, a5, a6⟩ := h
  exact ⟨a1.cg (h1 17 (by omega)) h5, a2.cg (h1 14 (by omega)) (h3 67 (by omega)) (h2 29 (by omega)) (h4 43 (by omega)), a3.cg (h2 30 (by omega)) (h4 27 (by omega)), a4.cg (h1 15 (by omega)) (h1 16 (by omega)) (h3 10 (by omega)) (h3 11 (by omega)), a5.cg (h1 641 (by omega)) (h3 1 (by omega)) (h2 6 (by omega)) (h4 1 (by omega)), a6.cg (h2 4 (by omega))⟩
theorem remem {n0 q b : Nat} {T : TP} {nr C m : Nat} {pm : Nat → Int32 × Nat} {s : Nat × List (Nat × Nat)} {MX MY : Mem} (hn : 1700 ≤ n0) (h : RR n0 q b T nr C m pm s MX MY) : ∃ MX' MY', fX2_remember n0 MX = some MX' ∧ fX12_keeps n0 MY = some MY' ∧ RR n0 q b T nr C m pm s MX' MY' := by
  obtain ⟨h1, h2, h3, h4, ⟨x0, f, u, e, a1, a2, a3, a4, a5, a6, a7, a8, a9⟩, h6, h7⟩ := h
  have hok := h1.2.2.2.1.2.1
  have hl := h2.2.2.l
  obtain ⟨X1, x1, x2, x3, x4, x5⟩ := xrem (n0 := n0) hok h3 (nx := (x0 + u) % 20) (by omega) a3 a4 a5
  -- the reference: a place is made
  have yk : ∃ f' u' Y1, (fX12_keeps n0 MY = fX12_keeps_32 n0 Y1) ∧ f' < 20 ∧ u' < 20 ∧ gI Y1 53 = nI f' ∧ gI Y1 54 = nI u' ∧ (∀ k, ¬ (k = 53 ∨ k = 54) → gI Y1 k = gI MY k) ∧ gA Y1 = gA MY ∧ gB Y1 = gB MY ∧ gL Y1 = gL MY ∧ ((u < 20 ∧ f' = f ∧ u' = u) ∨ (u = 20 ∧ f' = (f + 1) % 20 ∧ u' = 19)) := by
    by_cases g : u = 20
    · refine ⟨(f + 1) % 20, 19, sI (sI MY 53 (nI ((f + 1) % 20))) 54 (nI 19), ?_, by omega, by omega, by rw [gI_ne (by decide), gI_at], gI_at, fun k z => by rw [gI_ne (by omega), gI_ne (by omega)], rfl, rfl, rfl, Or.inr ⟨g, rfl, rfl⟩⟩
      unfold fX12_keeps
      refine eq_t (by rw [a7, g]; rfl) (eq_f (by decide) (eq_e (v' := sI MY 53 (nI ((f + 1) % 20))) ?_ ?_))
      · rw [a6, show nI f + 1 = nI (f + 1) from nI_add f 1, show (20 : Int32) = nI 20 from rfl, rem_nI (by omega) (by decide)]
      · rw [gI_ne (by decide), a7, g]
        rfl
    · refine ⟨f, u, MY, ?_, a2, by omega, a6, a7, fun _ _ => rfl, rfl, rfl, rfl, Or.inl ⟨by omega, rfl, rfl⟩⟩
      unfold fX12_keeps
      exact eq_f (by rw [a7]; exact fun z => g ((nI_eq (b := 20) (by omega) (by decide)).mp z)) rfl
  obtain ⟨f', u', Y1, y1, y2, y3, y4, y5, y6, y7, y8, y9, y10⟩ := yk
  obtain ⟨Y2, z1, z2, z3, z4, z5, z6, z7, z8⟩ := ykp (n0 := n0) (b := b) hn hok (h4.cg hok.2.1 (by omega) (fun a i _ => by rw [y7])) h2.2.2 y2 y3 y4 y5
  have w7 : ∀ a i, ¬ a = 35 → ¬ lP (2 + (f' + u') % 20) a i → gA Y2 a i = gA MY a i := fun a i p1 p2 => (z7 a i p1 p2).trans (by rw [y7])
  have wI : ∀ k, ¬ (k = 53 ∨ k = 54) → gI Y2 k = gI MY k := fun k p => (z4 k (by omega)).trans (y6 k p)
  have wB : ∀ a, ¬ a = 34 → gB Y2 a = gB MY a := fun a p => (z8 a p).trans (by rw [y8])
  have wA : ∀ a, ¬ (28 ≤ a ∧ a ≤ 33) → ¬ a = 35 → gA Y2 a = gA MY a := fun a p1 p2 => by
    funext i
    exact w7 a i p2 (fun z => by unfold lP tP dP at z; omega)
  refine ⟨X1, Y2, x1, y1.trans z1, ?_⟩
  refine ⟨h1.cgs x5.1 (fun k p => x5.2.2.2.1 k (by omega)) (fun a p1 p2 => x5.2.2.2.2 a (by omega)) (wI 13 (by decide)) (fun a p1 p2 => wA a (by omega) (by omega)) (fun a p1 p2 => wB a (by omega)), h2, h3.cgs x5.1 (x5.2.2.2.1 1281 (by decide)) (x5.2.2.2.1 1285 (by decide)) (fun a p1 p2 => x5.2.2.2.2 a (by omega)), h4.cg hok.2.1 (by omega) (fun a i p => w7 a i (by unfold lP tP dP at p; omega) (fun z => by unfold lP tP dP at z p; omega)), ?_, h6.cg (x5.2.2.2.1 2688 (by decide)) (wI 61 (by decide)) (fun a p1 p2 => x5.2.2.2.2 a (by omega)) (fun a p1 p2 => wA a (by omega) (by omega)), h7.cgs (fun k p => x5.2.2.2.1 k (by omega)) (fun a p => x5.2.2.2.2 a (by omega)) (fun k p => wI k (by omega)) (fun a p => wA a (by omega) (by omega)) (by rw [z5, y9])⟩
  have new : UE T s.2 (m, pm, s.1, s.2.length) (63 + (x0 + u) % 20) (2 + (f' + u') % 20) X1 Y2 := ⟨h2.1, h2.2.1, by rw [take_full]; exact h2.2.2, Nat.le_refl _, x4, by rw [take_full]; exact z2⟩
  rcases y10 with ⟨g, rfl, rfl⟩ | ⟨g, ef, eu⟩
  · refine ⟨x0, f', u' + 1, fun i => if i = u' then (m, pm, s.1, s.2.length) else e i, a1, a2, by omega, by rw [x2]; congr 1; omega, by rw [x3]; congr 1; omega, (z4 53 (by decide)).trans y4, z3, fun i hi => ?_, fun i j hij hj => ?_⟩
    · dsimp only
      by_cases gi : i = u'
      · rw [if_pos gi, gi]
        exact new
      · rw [if_neg gi]
        have o := a8 i (by omega)
        refine ⟨o.1, o.2.1, o.2.2.1, o.2.2.2.1, ?_, ?_⟩
        · have o5 := o.2.2.2.2.1
          unfold RowX at o5 ⊢
          rw [x5.2.2.2.2 (63 + (x0 + i) % 20) (by omega)]
          exact o5
        · have ol := o.2.2.1.l
          exact o.2.2.2.2.2.cg hok.2.1 (by omega) (fun a j p => w7 a j (by unfold lP tP dP at p; omega) (fun z => by unfold lP tP dP at z p; omega))
    · dsimp only
      by_cases gj : j = u'
      · rw [if_pos gj]
        by_cases gi : i = u'
        · rw [if_pos gi]; exact Nat.le_refl _
        · rw [if_neg gi]; exact (a8 i (by omega)).2.2.2.1
      · rw [if_neg gj, if_neg (by omega)]
        exact a9 i j hij (by omega)
  · subst ef eu
    refine ⟨(x0 + 1) % 20, (f + 1) % 20, 20, fun i => if i = 19 then (m, pm, s.1, s.2.length) else e (i + 1), by omega, by omega, by omega, by rw [x2]; congr 1; omega, by rw [x3]; congr 1; omega, (z4 53 (by decide)).trans y4, z3, fun i hi => ?_, fun i j hij hj => ?_⟩
    · dsimp only
      by_cases gi : i = 19
      · rw [if_pos gi, gi, show 63 + ((x0 + 1) % 20 + 19) % 20 = 63 + (x0 + u) % 20 by omega]
        exact new
      · rw [if_neg gi, show 63 + ((x0 + 1) % 20 + i) % 20 = 63 + (x0 + (i + 1)) % 20 by omega, show 2 + ((f + 1) % 20 + i) % 20 = 2 + (f + (i + 1)) % 20 by omega]
        have o := a8 (i + 1) (by omega)
        refine ⟨o.1, o.2.1, o.2.2.1, o.2.2.2.1, ?_, ?_⟩
        · have o5 := o.2.2.2.2.1
          unfold RowX at o5 ⊢
          rw [x5.2.2.2.2 (63 + (x0 + (i + 1)) % 20) (by omega)]
          exact o5
        · have ol := o.2.2.1.l
          exact o.2.2.2.2.2.cg hok.2.1 (by omega) (fun a j p => w7 a j (by unfold lP tP dP at p; omega) (fun z => by unfold lP tP dP at z p; omega))
    · dsimp only
      by_cases gj : j = 19
      · rw [if_pos gj]
        by_cases gi : i = 19
        · rw [if_pos gi]; exact Nat.le_refl _
        · rw [if_neg gi]; exact (a8 (i + 1) (by omega)).2.2.2.1
      · rw [if_neg gj, if_neg (by omega)]
        exact a9 (i + 1) (j + 1) (by omega) (by omega)
end
section
/-! ACTS: undo, minutes, give, take, chance -/
theorem xback {n0 p : Nat} {M : Mem} (hl : LX.ln p = 18) (hp : 63 ≤ p) : ∃ M', fX6_bringBack n0 p M = some M' ∧ gI M' 1281 = gA M p 0 ∧ gI M' 1285 = gA M p 1 ∧ (∀ c, c < 5 → gA M' 11 c = gA M p (2 + c) ∧ gA M' 12 c = gA M p (7 + c)) ∧ (∀ d, d < 6 → gA M' 13 d = gA M p (12 + d)) ∧ gR M' = gR M ∧ gL M' = gL M ∧ gB M' = gB M ∧ (∀ k, ¬ (k = 1281 ∨ k = 1285) → gI M' k = gI M k) ∧ ∀ a, ¬ (a = 11 ∨ a = 12 ∨ a = 13) → gA M' a = gA M a := by
  have so : ∀ (N : Mem) (f : Nat → Int32) (a r : Nat), ¬ a = r → gA (sF N r f) a = gA N a := fun N f a r z => by
    funext j
    rw [gA_sF, if_neg z]
  have sp : ∀ (N : Mem) (f : Nat → Int32) (r : Nat), gA (sF N r f) r = f := fun N f r => by
    funext j
    rw [gA_sF, if_pos rfl]
  have hM2 : ∃ M2, M2 = sI (sI M 1281 (gA M p 0)) 1285 (gA M p 1) := ⟨_, rfl⟩
  obtain ⟨M2, e2⟩ := hM2
  have hM3 : ∃ M3, M3 = sF M2 11 (va_cpy (gA M2 p) (gA M2 11) 2 0 5) := ⟨_, rfl⟩
  obtain ⟨M3, e3⟩ := hM3
  have hM4 : ∃ M4, M4 = sF M3 12 (va_cpy (gA M3 p) (gA M3 12) 7 0 5) := ⟨_, rfl⟩
  obtain ⟨M4, e4⟩ := hM4
  have hM5 : ∃ M5, M5 = sF M4 13 (va_cpy (gA M4 p) (gA M4 13) 12 0 6) := ⟨_, rfl⟩
  obtain ⟨M5, e5⟩ := hM5
  have vo : gA M2 = gA M := by rw [e2]; rfl
  have p3 : gA M3 p = gA M p := by rw [e3, so _ _ p 11 (by omega), vo]
  have p4 : gA M4 p = gA M p := by rw [e4, so _ _ p 12 (by omega), p3]
  refine ⟨M5, ?_, ?_, ?_, fun c hc => ⟨?_, ?_⟩, fun d hd => ?_, ?_, ?_, ?_, fun k z => ?_, fun a z => ?_⟩
  · unfold fX6_bringBack
    refine eq_t (by rw [hl]; decide) (eq_f (by rw [hl]; decide) (eq_n (eq_f (by rw [hl]; decide) (eq_e (v' := M2) (by rw [e2]; rfl) (eq_f (by rw [hl]; decide) (eq_e (v' := M3) (by rw [e3]; rfl) (eq_f (by rw [hl]; decide) (eq_e (v' := M4) (by rw [e4]; rfl) (eq_f (by rw [hl]; decide) ?_)))))))))
    rw [e5]
    rfl
  · rw [e5, e4, e3, e2]; rfl
  · rw [e5, e4, e3, e2]; rfl
  · rw [e5, so _ _ 11 13 (by decide), e4, so _ _ 11 12 (by decide), e3, sp, vo]; unfold va_cpy; rw [if_pos (by omega)]; congr 1
  · rw [e5, so _ _ 12 13 (by decide), e4, sp, p3]; unfold va_cpy; rw [if_pos (by omega)]; congr 1
  · rw [e5, sp, p4]; unfold va_cpy; rw [if_pos (by omega)]; congr 1
  · rw [e5, e4, e3, e2]; rfl
  · rw [e5, e4, e3, e2]; rfl
  · rw [e5, e4, e3, e2]; rfl
  · rw [e5, e4, e3, e2]
    show gI (sI (sI M 1281 _) 1285 _) k = _
    rw [gI_ne (by omega), gI_ne (by omega)]
  · rw [e5, so _ _ a 13 (by omega), e4, so _ _ a 12 (by omega), e3, so _ _ a 11 (by omega), vo]
theorem cUndo {n0 : Nat} {MX MY : Mem} (hn : 1700 ≤ n0) (h : R n0 MX MY) : Cal n0 (fX11_undo n0 MX) (fX12_undo n0 MY) := by
  have h0 := h
  obtain ⟨q, b, T, nr, C, m, pm, s, h⟩ := h
  obtain ⟨h1, h2, h3, h4, ⟨x0, f, u, e, a1, a2, a3, a4, a5, a6, a7, a8, a9⟩, h6, h7⟩ := h
  have hok := h1.2.2.2.1.2.1
  have hl := h2.2.2.l
  by_cases g : u = 0
  · subst g
    refine Cal.ref (k := 4) (r := 0) h0 (by decide) ?_ ?_
    · unfold fX11_undo
      refine eq_b (z := (0, MX)) ?_ (eq_t rfl (eq_b (xref (k := 4) (by decide)) rfl))
      unfold fX2_bringBack
      exact eq_f (by rw [a5]; decide) rfl
    · unfold fX12_undo
      exact eq_t (by rw [a7]; rfl) (eq_b (yref (k := 4) (by decide)) (eq_t (show (-1 : Int32) < 0 by decide) rfl))
  · obtain ⟨v, rfl⟩ : ∃ v, u = v + 1 := ⟨u - 1, by omega⟩
    obtain ⟨o1, o2, o3, o4, o5, o6⟩ := a8 v (by omega)
    have ol := o3.l
    -- the class
    have hp : (x0 + v) % 20 < 20 := by omega
    have hX1 : ∃ X1, X1 = sI (sI MX 2049 (nI ((x0 + v) % 20))) 2050 (nI v) := ⟨_, rfl⟩
    obtain ⟨X1, eX⟩ := hX1
    obtain ⟨X2, b1, b2, b3, b4, b5, b6, b7, b8, b9, b10⟩ := xback (n0 := n0) (M := X1) (ln63 _ hp) (by omega)
    have xA : gA X1 = gA MX := by rw [eX]; rfl
    have xR : gR X1 = gR MX := by rw [eX]; rfl
    have xI : ∀ k, ¬ (k = 2049 ∨ k = 2050) → gI X1 k = gI MX k := fun k z => by rw [eX, gI_ne (by omega), gI_ne (by omega)]
    have x1 : fX11_undo n0 MX = some (1, X2) := by
      unfold fX11_undo
      refine eq_b (z := (1, X2)) ?_ (eq_f (show ¬ (1 : Int32) = 0 by decide) rfl)
      unfold fX2_bringBack
      refine eq_t (by rw [a5]; exact nI_lt (a := 0) (by omega) (by omega)) (eq_f (by decide) (eq_e (v' := sI MX 2049 (nI ((x0 + v) % 20))) ?_ (eq_e (v' := X1) ?_ (eq_f ?_ (eq_b (z := X2) ?_ rfl)))))
      · rw [a4, show nI ((x0 + (v + 1)) % 20) + 20 = nI ((x0 + (v + 1)) % 20 + 20) from nI_add _ 20, show nI ((x0 + (v + 1)) % 20 + 20) - 1 = nI ((x0 + (v + 1)) % 20 + 19) from nIs _, show (20 : Int32) = nI 20 from rfl, rem_nI (by omega) (by decide)]
        congr 2
        omega
      · rw [eX, gI_ne (by decide), a5, nIs]
      · rw [eX, gI_ne (by decide), gI_at]
        exact nI_in hp (by decide)
      · rw [show gI X1 2049 = nI ((x0 + v) % 20) by rw [eX, gI_ne (by decide), gI_at], nI_clamp (by omega)]
        exact b1
    -- the reference
    have hY1 : ∃ Y1, Y1 = sI MY 54 (nI v) := ⟨_, rfl⟩
    obtain ⟨Y1, eY⟩ := hY1
    obtain ⟨Y2, c1, c2, c3⟩ := ycopyD (n0 := n0) (v := 0) (u := 2 + (f + v) % 20) (M := Y1) hn (by decide) (by omega) (by omega) hok.2.1 (by omega) (o6.cg hok.2.1 (by omega) (fun a i _ => by rw [eY]; rfl))
    have y1 : fX12_undo n0 MY = some (1, Y2) := by
      unfold fX12_undo
      refine eq_f (by rw [a7]; exact nI_ne0 (by omega) (by omega)) (eq_e (v' := Y1) (by rw [eY, a7, nIs]) (eq_b (z := (nI (2 + (f + v) % 20), Y1)) ?_ (eq_b c1 rfl)))
      rw [show gI Y1 54 = nI v by rw [eY, gI_at]]
      exact yslot a2 (by omega) (by rw [eY, gI_ne (by decide)]; exact a6)
    have yI : ∀ k, ¬ k = 54 → gI Y2 k = gI MY k := fun k z => by rw [c3.2.2.1, eY, gI_ne z]
    have yA : ∀ a i, ¬ a = 35 → ¬ lP 0 a i → gA Y2 a i = gA MY a i := fun a i z1 z2 => (c3.2.2.2.1 a i z1 z2).trans (by rw [eY]; rfl)
    have yA2 : ∀ a, ¬ (28 ≤ a ∧ a ≤ 33) → ¬ a = 35 → gA Y2 a = gA MY a := fun a z1 z2 => by
      funext i
      exact yA a i z2 (fun z => by unfold lP tP dP at z; omega)
    have xA2 : ∀ a, ¬ (a = 11 ∨ a = 12 ∨ a = 13) → gA X2 a = gA MX a := fun a z => (b10 a z).trans (by rw [xA])
    have xI2 : ∀ k, ¬ (k = 2049 ∨ k = 2050 ∨ k = 1281 ∨ k = 1285) → gI X2 k = gI MX k := fun k z => (b9 k (by omega)).trans (xI k (by omega))
    refine ⟨1, X2, Y2, x1, y1, q, b, T, nr, C, (e v).1, (e v).2.1, ((e v).2.2.1, s.2.take (e v).2.2.2), h1.cgs (b6.trans xR) (fun k z => xI2 k (by omega)) (fun a z1 z2 => xA2 a (by omega)) (yI 13 (by decide)) (fun a z1 z2 => yA2 a (by omega) (by omega)) (fun a z1 z2 => (c3.2.2.2.2 a (by omega)).trans (by rw [eY]; rfl)), ⟨o1, o2, o3⟩, ?_, c2, ?_, h6.cg (xI2 2688 (by decide)) (yI 61 (by decide)) (fun a z1 z2 => xA2 a (by omega)) (fun a z1 z2 => yA2 a (by omega) (by omega)), h7.cgs (fun k z => xI2 k (by omega)) (fun a z => xA2 a (by omega)) (fun k z => yI k (by omega)) (fun a z => yA2 a (by omega) (by omega)) (by rw [c3.2.1, eY]; rfl)⟩
    · obtain ⟨p1, p2, p3, p4⟩ := o5
      have h5 := hok.2.1
      have h66 := hok.2.2.1
      refine ⟨by rw [b6, xR]; exact h3.1, by rw [b6, xR]; exact h3.2.1, by rw [b2, xA]; exact p1, fun c hc => ?_, fun d hd => ?_, ?_, fun i p hp => ?_⟩
      · rw [(b4 c (by omega)).1, (b4 c (by omega)).2, xA]; exact p3 c hc
      · rw [b5 d (by omega), xA]; exact p4 d hd
      · rw [b3, xA, p2, List.length_take, Nat.min_eq_left o4]
      · rw [xA2 14 (by decide), xA2 15 (by decide)]
        refine h3.2.2.2.2.2.2 i p ?_
        have hi := K_lt hp
        rw [List.length_take] at hi
        rw [List.getElem?_take_of_lt (by omega)] at hp
        exact hp
    · refine ⟨x0, f, v, e, a1, a2, by omega, ?_, ?_, (yI 53 (by decide)).trans a6, ?_, fun i hi => ?_, fun i j hij hj => a9 i j hij (by omega)⟩
      · rw [b9 2049 (by decide), eX, gI_ne (by decide), gI_at]
      · rw [b9 2050 (by decide), eX, gI_at]
      · rw [c3.2.2.1, eY, gI_at]
      · have mono := a9 i v (by omega) (by omega)
        refine (a8 i (by omega)).cg hok (by omega) ?_ ?_ (xA2 _ (by omega)) (fun a j z => yA a j (by unfold uP at z; omega) (fun y => by unfold lP tP dP at y; unfold uP at z; omega))
        · rw [List.take_take, Nat.min_eq_left mono]
        · show (e i).2.2.2 ≤ (s.2.take (e v).2.2.2).length
          rw [List.length_take, Nat.min_eq_left o4]
          exact mono
theorem RR.step {n0 q b : Nat} {T : TP} {nr C m m' : Nat} {pm pm' : Nat → Int32 × Nat} {s s' : Nat × List (Nat × Nat)} {MX MY MX' MY' : Mem} (h : RR n0 q b T nr C m pm s MX MY) (fx : XG stI stA MX MX') (hS : SX q T.nc T.nd m' pm' s' MX') (fy : YF (lP 0) MY MY') (hL : LyD 0 T.nc m' pm' s' MY') (hv : m' ≤ 9999 ∧ PsO T.nt T.nc pm' ∧ sOk T.nd s') (hK : ∃ L, s'.2 = s.2 ++ L) : RR n0 q b T nr C m' pm' s' MX' MY' := by
  obtain ⟨h1, h2, h3, h4, h5, h6, h7⟩ := h
  have hok := h1.2.2.2.1.2.1
  have gx : ∀ a, ¬ stA a → ¬ (a = 8 ∨ a = 9) → gA MX' a = gA MX a := fun a z1 z2 => fx.2.2.2.1 a (fun z => by
    rcases z with z | z | z
    · exact z2 (Or.inl z)
    · exact z2 (Or.inr z)
    · exact z1 z)
  have ix : ∀ k, ¬ ((897 ≤ k ∧ k ≤ 900) ∨ k = 903) → ¬ stI k → gI MX' k = gI MX k := fun k z1 z2 => fx.2.2.2.2 k (fun z => by
    rcases z with z | z | z
    · exact z1 (Or.inl z)
    · exact z1 (Or.inr z)
    · exact z2 z)
  have gy : ∀ a, ¬ (28 ≤ a ∧ a ≤ 33) → ¬ a = 35 → gA MY' a = gA MY a := fun a z1 z2 => by
    funext i
    exact fy.2.2.2.1 a i z2 (fun z => by unfold lP tP dP at z; omega)
  have iy : ∀ k, gI MY' k = gI MY k := fun k => by rw [fy.2.2.1]
  exact ⟨h1.cgs fx.1 (fun k z => ix k (by omega) (by unfold stI; omega)) (fun a z1 z2 => gx a (by unfold stA; omega) (by omega)) (iy 13) (fun a z1 z2 => gy a (by omega) (by omega)) (fun a z1 z2 => fy.2.2.2.2 a (by omega)), hv, hS, hL, h5.cg hok hK (fun p z1 z2 => gx p (by unfold stA; omega) (by omega)) (ix 2049 (by decide) (by unfold stI; decide)) (ix 2050 (by decide) (by unfold stI; decide)) (iy 53) (iy 54) (fun a i z => fy.2.2.2.1 a i (by unfold uP at z; omega) (fun y => by unfold lP tP dP at y; unfold uP at z; omega)), h6.cg (ix 2688 (by decide) (by unfold stI; decide)) (iy 61) (fun a z1 z2 => gx a (by unfold stA; omega) (by omega)) (fun a z1 z2 => gy a (by omega) (by omega)), h7.cgs (fun k z => ix k (by omega) (by unfold stI; omega)) (fun a z => gx a (by unfold stA; omega) (by omega)) (fun k _ => iy k) (fun a z => gy a (by omega) (by omega)) (by rw [fy.2.1])⟩
/-- a minute on both sides, but for doings -/
theorem tick2 {n0 q b : Nat} {T : TP} {nr C m : Nat} {pm : Nat → Int32 × Nat} {s : Nat × List (Nat × Nat)} {MX MY : Mem} (hn : 1700 ≤ n0) (h : RR n0 q b T nr C m pm s MX MY) (hm : m < 9999) : ∃ MX' MY', fX6_goOn n0 MX = some MX' ∧ fX12_ticks n0 0 MY = some MY' ∧ RR n0 q b T nr C (m + 1) (nxP T m pm) s MX' MY' := by
  obtain ⟨X1, a1, a2, a3⟩ := xgoS hn h.1.2.2.2.1 h.2.2.1 h.2.1.2.1 hm
  obtain ⟨Y1, b1, b2, b3⟩ := ytickD (v := 0) hn h.1.2.2.2.2.1 (by decide) h.2.2.2.1 h.2.1.2.1 h.2.1.2.2 (by omega)
  exact ⟨X1, Y1, a1, b1, h.step a3 a2 b3 b2 ⟨by omega, nxP_ok h.2.1.2.1, h.2.1.2.2⟩ ⟨[], (List.append_nil _).symm⟩⟩
/-- what is due on both sides -/
theorem due2 {n0 q b : Nat} {T : TP} {nr C m : Nat} {pm : Nat → Int32 × Nat} {s : Nat × List (Nat × Nat)} {MX MY : Mem} (hn : 1700 ≤ n0) (h : RR n0 q b T nr C m pm s MX MY) : ∃ r MX' MY', fX6_doWhatIsDue n0 MX = some (r, MX') ∧ fX12_finishesDoings n0 0 MY = some (r, MY') ∧ RR n0 q b T nr C m pm (fnS (due T pm m) m s T.nd) MX' MY' := by
  have hm := h.2.1.1
  obtain ⟨X1, a1, a2, a3⟩ := xfin hn h.1.2.2.2.1 h.2.2.1 h.2.1.2.1 (by omega) h.2.1.2.2
  obtain ⟨Y1, b1, b2, b3⟩ := yfinD (v := 0) hn h.1.2.2.2.2.1 (by decide) h.2.2.2.1 h.2.1.2.1 h.2.1.2.2 (by omega)
  exact ⟨_, X1, Y1, a1, b1, h.step a3 a2 b3 b2 ⟨hm, h.2.1.2.1, fnS_ok h.1.2.2.2.1.2.1.2.2.1 h.2.1.2.2 _ (Nat.le_refl _)⟩ (fnS_pre _)⟩
def upP (pm : Nat → Int32 × Nat) (c : Nat) (v : Int32 × Nat) : Nat → Int32 × Nat := fun j => if j = c then v else pm j
theorem put2 {n0 q b : Nat} {T : TP} {nr C m c : Nat} {t : Int32} {pm : Nat → Int32 × Nat} {s : Nat × List (Nat × Nat)} {MX MY : Mem} (h : RR n0 q b T nr C m pm s MX MY) (hc : c < T.nc) (ht : tOk T.nt t) : ∃ MX' MY', fX6_put n0 (nI c) t MX = some MX' ∧ fX12_puts n0 0 (nI c) t MY = some MY' ∧ RR n0 q b T nr C m (upP pm c (t, 0)) s MX' MY' := by
  have h5 := h.1.2.2.2.1.2.1.2.1
  have hl := h.2.1.2.2.l
  have cc : (nI c).toNatClampNeg = c := nI_clamp (by omega)
  refine ⟨sA (sA MX 11 c t) 12 c 0, sA (sA MY 29 (5 * 0 + c) t) 30 (5 * 0 + c) 0, ?_, yputs (v := 0) (by decide) (by omega), h.step ((XG.r.a (by unfold stA; omega)).a (by unfold stA; omega)) ?_ ((YF.r.a (by unfold lP tP; omega)).a (by unfold lP tP; omega)) ?_ ⟨h.2.1.1, fun j hj => ?_, h.2.1.2.2⟩ ⟨[], (List.append_nil _).symm⟩⟩
  · unfold fX6_put
    simp only [cc]
    exact eq_f (nI_nn (by omega)) (eq_f (nI_ge (b := 5) (by omega) (by decide)) (eq_f (nI_in (by omega) (by decide)) (eq_n (eq_f (nI_in (by omega) (by decide)) rfl))))
  · obtain ⟨s1, s2, s3, s4, s5, s6, s7⟩ := h.2.2.1
    refine ⟨s1, s2, s3, fun j hj => ?_, fun d hd => by rw [gA_sA_ne (by decide), gA_sA_ne (by decide)]; exact s5 d hd, s6, fun i p hp => by rw [gA_sA_ne (by decide), gA_sA_ne (by decide), gA_sA_ne (by decide), gA_sA_ne (by decide)]; exact s7 i p hp⟩
    rw [gA_sA_ne (by decide), gA_sA, if_pos rfl, gA_sA, if_pos rfl, gA_sA_ne (by decide)]
    unfold upP
    by_cases g : j = c
    · rw [if_pos g, if_pos g, if_pos g]; exact ⟨rfl, rfl⟩
    · rw [if_neg g, if_neg g, if_neg g]; exact s4 j hj
  · obtain ⟨⟨l1, l2⟩, l3, l4, l5⟩ := h.2.2.2.1
    refine ⟨⟨by rw [gA_sA_ne (by decide), gA_sA_ne (by decide)]; exact l1, fun j hj => ?_⟩, by rw [gA_sA_ne (by decide), gA_sA_ne (by decide)]; exact l3, by rw [gA_sA_ne (by decide), gA_sA_ne (by decide)]; exact l4, fun i p hp => by rw [gA_sA_ne (by decide), gA_sA_ne (by decide)]; exact l5 i p hp⟩
    rw [gA_sA_ne (by decide), gA_sA, if_pos rfl, gA_sA, if_pos rfl, gA_sA_ne (by decide)]
    unfold upP
    by_cases g : j = c
    · rw [if_pos (show 5 * 0 + j = 5 * 0 + c by omega), if_pos g, if_pos (show 5 * 0 + j = 5 * 0 + c by omega)]; exact ⟨rfl, rfl⟩
    · rw [if_neg (show ¬ 5 * 0 + j = 5 * 0 + c by omega), if_neg g, if_neg (show ¬ 5 * 0 + j = 5 * 0 + c by omega)]; exact l2 j hj
  · unfold upP
    by_cases g : j = c
    · rw [if_pos g]; exact ⟨ht, Nat.zero_le _⟩
    · rw [if_neg g]; exact h.2.1.2.1 j hj
abbrev xmL (n0 : Nat) : Nat → Int32 → Int32 → Int32 → Mem → Option (Int32 × Mem) := loopN (bX11_minutes_40 n0) (fun _ _ _ _ => none)
abbrev ymL (n0 : Nat) : Nat → Int32 → Int32 → Int32 → Mem → Option (Int32 × Mem) := loopN (bX12_minutes_25 n0) (fun _ _ _ _ => none)
theorem mnL {n0 q b : Nat} {T : TP} {nr C n : Nat} (hn : 1700 ≤ n0) (h100 : n ≤ 100) : ∀ w k m (acc : Int32) (pm : Nat → Int32 × Nat) (s : Nat × List (Nat × Nat)) (MX MY : Mem), k ≤ n → n < w + k → m + (n - k) ≤ 9999 → RR n0 q b T nr C m pm s MX MY → ∃ r MX' MY', xmL n0 w (nI n) acc (nI k) MX = some (r, MX') ∧ ymL n0 w (nI n) acc (nI k) MY = some (r, MY') ∧ R n0 MX' MY'
  | 0, k, _, _, _, _, _, _, hk, hw, _, _ => by omega
  | w + 1, k, m, acc, pm, s, MX, MY, hk, hw, hm, h => by
    show ∃ r MX' MY', bX11_minutes_40 n0 (xmL n0 w) (nI n) acc (nI k) MX = _ ∧ bX12_minutes_25 n0 (ymL n0 w) (nI n) acc (nI k) MY = _ ∧ _
    unfold bX11_minutes_40 bX12_minutes_25
    by_cases g : k = n
    · rw [g]
      exact ⟨acc, MX, MY, eq_t (Int32.le_refl _) rfl, eq_t (Int32.le_refl _) rfl, q, b, T, nr, C, m, pm, s, h⟩
    · have hc : ¬ nI n ≤ nI k := nI_ge (by omega) (by omega)
      obtain ⟨X1, Y1, a1, a2, a3⟩ := tick2 hn h (by omega)
      obtain ⟨r, X2, Y2, b1, b2, b3⟩ := due2 hn a3
      obtain ⟨r', X3, Y3, c1, c2, c3⟩ := mnL hn h100 w (k + 1) (m + 1) (acc + r) _ _ X2 Y2 (by omega) (by omega) (by omega) b3
      have k1 : nI k + 1 = nI (k + 1) := nI_add k 1
      refine ⟨r', X3, Y3, eq_f hc (eq_b a1 (eq_b b1 (eq_n ?_))), eq_f hc (eq_b (z := (r, Y2)) ?_ (eq_n ?_)), c3⟩
      · rw [k1]; exact c1
      · unfold fX12_passes
        exact eq_b a2 (eq_b b2 rfl)
      · rw [k1]; exact c2
/-- minutes ahead that can be: both sides -/
theorem ahead2 {n0 q b : Nat} {T : TP} {nr C m : Nat} {pm : Nat → Int32 × Nat} {s : Nat × List (Nat × Nat)} {MX MY : Mem} (h : RR n0 q b T nr C m pm s MX MY) (k : Nat) (hk : k ≤ 100) : (m + k ≤ 9999 ∧ fX11_isBeyond n0 (nI k) MX = some (0, MX) ∧ ¬ nI (9999 - k) < gA MY 28 0) ∨ (¬ m + k ≤ 9999 ∧ fX11_isBeyond n0 (nI k) MX = some (1, MX) ∧ nI (9999 - k) < gA MY 28 0) := by
  have hm := h.2.1.1
  have y : gA MY 28 0 = nI m := h.2.2.2.1.1.1
  rw [y]
  unfold fX11_isBeyond
  rw [h.2.2.1.2.2.1, show (9999 : Int32) - nI m = nI (9999 - m) from nI_subN hm]
  by_cases g : m + k ≤ 9999
  · exact Or.inl ⟨g, eq_t (nI_le (by omega) (by omega)) rfl, fun z => by have := (nI_ltI (by omega) (by omega)).mp z; omega⟩
  · exact Or.inr ⟨g, eq_f (nI_ge (by omega) (by omega)) rfl, nI_lt (by omega) (by omega)⟩
/-- the reference's isAhead at a layer 0 of minute m -/
theorem yah {n0 m lo hi : Nat} {M : Mem} (x : Int32) (h28 : gA M 28 0 = nI m) (hm : m ≤ 9999) (hhi : hi ≤ 100) (hlo : lo ≤ hi) : (∃ k, lo ≤ k ∧ k ≤ hi ∧ m + k ≤ 9999 ∧ x = nI k ∧ fX12_isAhead n0 x (nI lo) (nI hi) M = some (1, M)) ∨ ((x < nI lo ∨ nI hi < x ∨ ∃ k, lo ≤ k ∧ k ≤ hi ∧ x = nI k ∧ ¬ m + k ≤ 9999) ∧ fX12_isAhead n0 x (nI lo) (nI hi) M = some (0, M)) := by
  unfold fX12_isAhead fX12_is
  by_cases g1 : x < nI lo
  · exact Or.inr ⟨Or.inl g1, eq_b (eq_t g1 rfl) (eq_t rfl rfl)⟩
  · by_cases g2 : nI hi < x
    · exact Or.inr ⟨Or.inr (Or.inl g2), eq_b (eq_f g1 (eq_t g2 rfl)) (eq_t rfl rfl)⟩
    · have n0x : ¬ x < 0 := fun z => g1 (by
        rw [i_lt] at z ⊢
        rw [nI_toInt (by omega)]
        have : (0 : Int32).toInt = 0 := rfl
        omega)
      obtain ⟨k, hk, rfl⟩ := nI_of2 (M := nI hi) (n := hi) (nI_toInt (by omega)) n0x (Int32.not_lt.mp g2)
      have hlk : lo ≤ k := by
        rcases Nat.lt_or_ge k lo with z | z
        · exact absurd (nI_lt z (by omega)) g1
        · exact z
      have e : (9999 : Int32) - nI k = nI (9999 - k) := nI_subN (a := 9999) (by omega)
      have h28' : gA M 28 (Int32.toNatClampNeg 0) = nI m := h28
      by_cases g3 : m + k ≤ 9999
      · refine Or.inl ⟨k, hlk, hk, g3, rfl, eq_b (eq_f g1 (eq_f g2 rfl)) (eq_f (show ¬ (1 : Int32) = 0 by decide) (eq_f (by decide) (eq_f ?_ rfl)))⟩
        show ¬ (9999 : Int32) - nI k < gA M 28 (Int32.toNatClampNeg 0)
        rw [h28', e]
        exact fun z => by have := (nI_ltI (by omega) (by omega)).mp z; omega
      · refine Or.inr ⟨Or.inr (Or.inr ⟨k, hlk, hk, rfl, g3⟩), eq_b (eq_f g1 (eq_f g2 rfl)) (eq_f (show ¬ (1 : Int32) = 0 by decide) (eq_f (by decide) (eq_t ?_ rfl)))⟩
        show (9999 : Int32) - nI k < gA M 28 (Int32.toNatClampNeg 0)
        rw [h28', e]
        exact nI_lt (by omega) (by omega)
theorem cMinutes {n0 : Nat} {x : Int32} {MX MY : Mem} (hn : 1700 ≤ n0) (h : R n0 MX MY) : Cal n0 (fX11_minutes n0 x MX) (fX12_minutes n0 x MY) := by
  have h0 := h
  obtain ⟨q, b, T, nr, C, m, pm, s, h⟩ := h
  have hm := h.2.1.1
  have y : gA MY 28 0 = nI m := h.2.2.2.1.1.1
  have bad : ∀ f g, f = fX11_minutes_19 n0 MX → g = (fX12_refuses n0 2 MY).bind (fun z13 => some (z13.1, z13.2)) → Cal n0 f g := fun f g e1 e2 => by
    refine Cal.ref (k := 2) (r := -1) h0 (by decide) (e1.trans ?_) (e2.trans ?_)
    · unfold fX11_minutes_19
      exact eq_b (xref (k := 2) (by decide)) rfl
    · exact eq_b (yref (k := 2) (by decide)) rfl
  unfold fX11_minutes fX12_minutes
  rcases yah (n0 := n0) (lo := 1) (hi := 100) x y hm (by decide) (by decide) with ⟨k, k1, k2, k3, rfl, e⟩ | ⟨z, e⟩
  · rcases ahead2 h k k2 with ⟨_, e1, _⟩ | ⟨g, _⟩
    · obtain ⟨X1, Y1, a1, a2, a3⟩ := remem hn h
      obtain ⟨r, X2, Y2, b1, b2, b3⟩ := mnL hn k2 n0 0 m 0 pm s X1 Y1 (by omega) (by omega) (by omega) a3
      exact ⟨r, X2, Y2, eq_f (fun z => by have := (nI_ltI (b := 1) (by omega) (by decide)).mp z; omega) (eq_f (fun z => by have := (nI_ltI (a := 100) (by decide) (by omega)).mp z; omega) (eq_b e1 (eq_t rfl (eq_b a1 b1)))), eq_b e (eq_f (show ¬ (1 : Int32) = 0 by decide) (eq_b a2 b2)), b3⟩
    · exact absurd k3 g
  · refine bad _ _ ?_ (eq_b e (eq_t rfl rfl))
    rcases z with z | z | ⟨k, k1, k2, rfl, k3⟩
    · exact eq_t z rfl
    · by_cases g : x < 1
      · exact eq_t g rfl
      · exact eq_f g (eq_t z rfl)
    · rcases ahead2 h k k2 with ⟨g, _⟩ | ⟨_, e1, _⟩
      · exact absurd g k3
      · exact eq_f (fun z => by have := (nI_ltI (b := 1) (by omega) (by decide)).mp z; omega) (eq_f (fun z => by have := (nI_ltI (a := 100) (by decide) (by omega)).mp z; omega) (eq_b e1 (eq_f (show ¬ (1 : Int32) = 0 by decide) rfl)))
theorem putAct {n0 q b : Nat} {T : TP} {nr C m c : Nat} {t : Int32} {pm : Nat → Int32 × Nat} {s : Nat × List (Nat × Nat)} {MX MY : Mem} (hn : 1700 ≤ n0) (h : RR n0 q b T nr C m pm s MX MY) (hc : c < T.nc) (ht : tOk T.nt t) : ∃ r X5 Y1 Y2 Y3 Y4 r2, fX11_putByAct n0 (nI c) t MX = some (r, X5) ∧ fX12_keeps n0 MY = some Y1 ∧ fX12_puts n0 0 (nI c) t Y1 = some Y2 ∧ fX12_finishesDoings n0 0 Y2 = some (r2, Y3) ∧ fX12_hour n0 0 (nI c) Y3 = some (r, Y4) ∧ R n0 X5 Y4 := by
  obtain ⟨X1, Y1, a1, a2, a3⟩ := remem hn h
  obtain ⟨X2, Y2, b1, b2, b3⟩ := put2 a3 hc ht
  obtain ⟨r2, X3, Y3, c1, c2, c3⟩ := due2 hn b3
  have hm := c3.2.1.1
  obtain ⟨X4, d1, d2⟩ := xhourAt c3.1.2.2.2.1 c3.2.2.1 c3.2.1.2.1 (by omega) hc
  obtain ⟨_, Y4, e1, e2⟩ := yhr c3.1.2.2.2.2.1 (v := 0) (by decide) c3.2.2.2.1.1 c3.2.1.2.1 (by omega) hc
  refine ⟨_, X4, Y1, Y2, Y3, Y4, r2, ?_, a2, b2, c2, e1, _, _, _, _, _, _, _, _, c3.scr d2.n e2.y⟩
  unfold fX11_putByAct
  exact eq_b a1 (eq_b b1 (eq_b c1 (eq_b d1 rfl)))
theorem cGive {n0 : Nat} {x y : Int32} {MX MY : Mem} (hn : 1700 ≤ n0) (h : R n0 MX MY) : Cal n0 (fX11_give n0 x y MX) (fX12_give n0 x y MY) := by
  have h0 := h
  obtain ⟨q, b, T, nr, C, m, pm, s, h⟩ := h
  have bad : ∀ f g, f = fX11_give_22 n0 MX → g = fX12_give_16 n0 MY → Cal n0 f g := fun f g e1 e2 => by
    refine Cal.ref (k := 3) (r := -1) h0 (by decide) (e1.trans ?_) (e2.trans ?_)
    · unfold fX11_give_22
      exact eq_b (xref (k := 3) (by decide)) rfl
    · unfold fX12_give_16
      exact eq_b (yref (k := 3) (by decide)) rfl
  unfold fX11_give fX12_give
  rcases isCo h.1 x with ⟨k, hk, rfl, e1, e2⟩ | ⟨z, e1, e2⟩
  · rcases isTh h.1 y with ⟨j, hj, rfl, d1, d2⟩ | ⟨z, d1, d2⟩
    · obtain ⟨r, X5, Y1, Y2, Y3, Y4, r2, a1, a2, a3, a4, a5, a6⟩ := putAct hn h hk (t := nI j) (Or.inr ⟨j, hj, rfl⟩)
      exact ⟨r, X5, Y4, eq_b e1 (eq_f (show ¬ (1 : Int32) = 0 by decide) (eq_b d1 (eq_f (show ¬ (1 : Int32) = 0 by decide) (eq_b a1 rfl)))), eq_b e2 (eq_f (show ¬ (1 : Int32) = 0 by decide) (eq_b d2 (eq_f (show ¬ (1 : Int32) = 0 by decide) (eq_b a2 (eq_b a3 (eq_b a4 (eq_b a5 rfl))))))), a6⟩
    · exact bad _ _ (eq_b e1 (eq_f (show ¬ (1 : Int32) = 0 by decide) (eq_b d1 (eq_t rfl rfl)))) (eq_b e2 (eq_f (show ¬ (1 : Int32) = 0 by decide) (eq_b d2 (eq_t rfl rfl))))
  · exact bad _ _ (eq_b e1 (eq_t rfl rfl)) (eq_b e2 (eq_t rfl rfl))
theorem cTake {n0 : Nat} {x : Int32} {MX MY : Mem} (hn : 1700 ≤ n0) (h : R n0 MX MY) : Cal n0 (fX11_take n0 x MX) (fX12_take n0 x MY) := by
  have h0 := h
  obtain ⟨q, b, T, nr, C, m, pm, s, h⟩ := h
  have h5 := h.1.2.2.2.1.2.1.2.1
  have bad : ∀ f g, f = fX11_take_24 n0 MX → g = fX12_take_18 n0 MY → Cal n0 f g := fun f g e1 e2 => by
    refine Cal.ref (k := 3) (r := -1) h0 (by decide) (e1.trans ?_) (e2.trans ?_)
    · unfold fX11_take_24
      exact eq_b (xref (k := 3) (by decide)) rfl
    · unfold fX12_take_18
      exact eq_b (yref (k := 3) (by decide)) rfl
  unfold fX11_take fX12_take
  rcases isCo h.1 x with ⟨k, hk, rfl, e1, e2⟩ | ⟨z, e1, e2⟩
  · have ck : (nI k).toNatClampNeg = k := nI_clamp (by omega)
    have px := (h.2.2.1.2.2.2.1 k hk).1
    have py := (h.2.2.2.1.1.2 k hk).1
    rw [show 5 * 0 + k = k by omega] at py
    by_cases g : (pm k).1 = -1
    · exact bad _ _ (eq_b e1 (eq_f (show ¬ (1 : Int32) = 0 by decide) (eq_f (nI_in (by omega) (by decide)) (eq_t (by rw [ck, px]; exact g) rfl)))) (eq_b e2 (eq_f (show ¬ (1 : Int32) = 0 by decide) (eq_f (nI_in (by omega) (by decide)) (eq_t (by rw [ck, py]; exact g) rfl))))
    · obtain ⟨r, X5, Y1, Y2, Y3, Y4, r2, a1, a2, a3, a4, a5, a6⟩ := putAct hn h hk (t := -1) (Or.inl rfl)
      exact ⟨r, X5, Y4, eq_b e1 (eq_f (show ¬ (1 : Int32) = 0 by decide) (eq_f (nI_in (by omega) (by decide)) (eq_f (by rw [ck, px]; exact g) (eq_b a1 rfl)))), eq_b e2 (eq_f (show ¬ (1 : Int32) = 0 by decide) (eq_f (nI_in (by omega) (by decide)) (eq_f (by rw [ck, py]; exact g) (eq_b a2 (eq_b a3 (eq_b a4 (eq_b a5 rfl))))))), a6⟩
  · exact bad _ _ (eq_b e1 (eq_t rfl rfl)) (eq_b e2 (eq_t rfl rfl))
end
section
/-! MINUTES BY THE SEED -/
theorem lz (k : Nat) : lN k = zL k := (Int64.ofInt_eq_ofNat (n := k)).symm
theorem lAnd (a b : Nat) : lN a &&& lN b = lN (a &&& b) := by
  apply Int64.toBitVec_inj.1
  show BitVec.ofNat 64 a &&& BitVec.ofNat 64 b = BitVec.ofNat 64 (a &&& b)
  exact BitVec.ofNat_and.symm
theorem rem_lN {a b : Nat} (ha : a < 2 ^ 63) (h0 : 0 < b) (hb : b < 2 ^ 63) : rem64 (lN a) (lN b) = lN (a % b) := by
  unfold rem64
  rw [pk_lDiv ha h0 hb, lN_mul, lN_sub (Nat.div_mul_le_self a b)]
  congr 1
  have := Nat.mod_add_div a b
  rw [Nat.mul_comm] at this
  omega
def drw (x : Nat) : Nat := (1103515245 * x + 12345) % 2147483648
theorem drw_lt (x : Nat) : drw x < 2147483648 := Nat.mod_lt _ (by decide)
theorem xdraw {n0 x k : Nat} {M : Mem} (hx : x < 2147483648) (h : gI M 17 = nI x) (hk : 0 < k) (hk2 : k ≤ 100) : fX11_draw n0 (nI k) M = some (nI (drw x / 64 % k), sI M 17 (nI (drw x))) := by
  have hd := drw_lt x
  have e : (((1103515245 : Int64) * (nI x).toInt64 + 12345) &&& 2147483647).toInt32 = nI (drw x) := by
    rw [nI_l (by omega), show (1103515245 : Int64) = lN 1103515245 from rfl, lN_mul, show (12345 : Int64) = lN 12345 from rfl, lN_add, show (2147483647 : Int64) = lN 2147483647 from rfl, lAnd, lN_i]
    unfold drw
    rw [show 2147483647 = 2 ^ 31 - 1 from rfl, Nat.and_two_pow_sub_one_eq_mod]
  unfold fX11_draw
  rw [h, e]
  refine eq_n (eq_f (nI_ge (a := 0) hk (by omega)) (eq_f (by decide) (eq_f (nI_ne0 hk (by omega)) ?_)))
  rw [gI_at, show (64 : Int32) = nI 64 from rfl, nI_div (by omega) (by decide), rem_nI (by omega) (by omega)]
theorem ydraw {n0 x k : Nat} {M : Mem} (hx : x < 2147483648) (h : gL M 55 = zL x) (hk : 0 < k) (hk2 : k ≤ 100) : fX12_draw n0 (nI k) M = some (nI (drw x / 64 % k), sL M 55 (zL (drw x))) := by
  have hd := drw_lt x
  have e : rem64 ((1103515245 : Int64) * gL M 55 + 12345) 2147483648 = lN (drw x) := by
    rw [h, ← lz, show (1103515245 : Int64) = lN 1103515245 from rfl, lN_mul, show (12345 : Int64) = lN 12345 from rfl, lN_add, show (2147483648 : Int64) = lN 2147483648 from rfl, rem_lN (by omega) (by decide) (by decide)]
    rfl
  unfold fX12_draw
  rw [e, ← lz]
  refine eq_f (by decide) (eq_n (eq_f (by decide) (eq_f ?_ ?_)))
  · rw [nI_l (by omega)]
    exact fun z => by
      have := (pk_lEQ (a := k) (b := 0) (by omega) (by decide)).mp z
      omega
  · rw [gL_sL, if_pos rfl, nI_l (by omega), show (64 : Int64) = lN 64 from rfl, pk_lDiv (by omega) (by decide) (by decide), rem_lN (by omega) hk (by omega), lN_i]
/-- a draw on both sides -/
theorem draw2 {n0 q b : Nat} {T : TP} {nr C m k : Nat} {pm : Nat → Int32 × Nat} {s : Nat × List (Nat × Nat)} {MX MY : Mem} (h : RR n0 q b T nr C m pm s MX MY) (hk : 0 < k) (hk2 : k ≤ 100) : ∃ j MX' MY', j < k ∧ fX11_draw n0 (nI k) MX = some (nI j, MX') ∧ fX12_draw n0 (nI k) MY = some (nI j, MY') ∧ RR n0 q b T nr C m pm s MX' MY' := by
  have ho := h.2.2.2.2.2.2
  obtain ⟨x, x1, x2, x3⟩ := ho.1
  refine ⟨drw x / 64 % k, _, _, Nat.mod_lt _ hk, xdraw x1 x2 hk hk2, ydraw x1 x3 hk hk2, h.ou ⟨rfl, fun k z => gI_ne (by omega), fun _ _ => rfl⟩ ⟨fun _ _ => rfl, fun _ _ => rfl, rfl⟩ ⟨⟨drw x, drw_lt x, gI_at, by rw [gL_sL, if_pos rfl]⟩, ho.2.1, ho.2.2.1, ho.2.2.2.1, ho.2.2.2.2.1, ho.2.2.2.2.2⟩⟩
/-- a passer on both sides, as far as doings -/
theorem pass2 {n0 q b : Nat} {T : TP} {nr C m : Nat} {pm : Nat → Int32 × Nat} {s : Nat × List (Nat × Nat)} {MX MY : Mem} (k25 : Int32 → Int32 → Int32 → Mem → Option (Int32 × Mem)) (x1 acc x3 : Int32) (h : RR n0 q b T nr C m pm s MX MY) : ∃ r pm' MX' MY', fX11_letPass n0 MX = some (r, MX') ∧ ((fX12_draw n0 100 MY).bind fun z38 =>
    if oob (gI z38.2 13) 2 then none else
    if (gA z38.2 13 (Int32.toNatClampNeg (gI z38.2 13))) ≤ z38.1 then
      fX12_chance_115 n0 k25 x1 acc x3 z38.2
    else
      if oob (gI z38.2 13) 2 then none else
      if (gA z38.2 5 (Int32.toNatClampNeg (gI z38.2 13))) ≤ 0 then
        fX12_chance_115 n0 k25 x1 acc x3 z38.2
      else
        if oob (gI z38.2 13) 2 then none else
        if (gA z38.2 2 (Int32.toNatClampNeg (gI z38.2 13))) ≤ 0 then
          fX12_chance_115 n0 k25 x1 acc x3 z38.2
        else
          if oob (gI z38.2 13) 2 then none else
          (fX12_draw n0 (gA z38.2 5 (Int32.toNatClampNeg (gI z38.2 13))) z38.2).bind fun z87 =>
          if oob (gI z87.2 13) 2 then none else
          (fX12_draw n0 (gA z87.2 2 (Int32.toNatClampNeg (gI z87.2 13))) z87.2).bind fun z106 =>
          (fX12_puts n0 (0 : Int32) z87.1 z106.1 z106.2).bind fun z109 =>
          fX12_chance_115 n0 k25 x1 (acc + (1 : Int32)) x3 z109) = fX12_chance_115 n0 k25 x1 (acc + r) x3 MY' ∧ RR n0 q b T nr C m pm' s MX' MY' := by
  obtain ⟨j, X1, Y1, j1, j2, j3, j4⟩ := draw2 h (k := 100) (by decide) (by decide)
  have cells : ∀ {X Y : Mem}, RR n0 q b T nr C m pm s X Y → gR X 1 = q ∧ gI X (128 * q + 5) = nI T.nc ∧ gI X (128 * q + 1) = nI T.nt ∧ ¬ oob (gI Y 13) 2 ∧ gA Y 5 (gI Y 13).toNatClampNeg = nI T.nc ∧ gA Y 2 (gI Y 13).toNatClampNeg = nI T.nt := fun {X Y} z => by
    have hb := z.1.2.2.2.2.1.2.2.1
    have h13 := z.1.2.2.2.2.1.2.2.2.1
    have cb : (gI Y 13).toNatClampNeg = b := by rw [h13]; exact nI_clamp (by omega)
    exact ⟨z.1.2.1, z.1.2.2.2.1.2.2.1, z.1.2.2.2.1.1.2.2.1, by rw [h13]; exact nI_in (by omega) (by decide), by rw [cb]; exact z.1.2.2.2.2.1.2.2.2.2.2.1, by rw [cb]; exact z.1.2.2.2.2.1.2.2.2.2.1⟩
  obtain ⟨c1, c2, c3, c4, c5, c6⟩ := cells j4
  obtain ⟨o1, o2, _⟩ := j4.1.2.2.2.1.2.1
  obtain ⟨p, p1, p2, p3⟩ := j4.1.2.2.2.2.2.1.2.2.2.2.2.1
  have hb := j4.1.2.2.2.2.1.2.2.1
  have q13 : gA Y1 13 (gI Y1 13).toNatClampNeg = nI p := by rw [j4.1.2.2.2.2.1.2.2.2.1, nI_clamp (by omega)]; exact p3
  have a0 : acc + 0 = acc := by
    apply Int32.toBitVec_inj.1
    show acc.toBitVec + 0#32 = acc.toBitVec
    exact BitVec.add_zero _
  unfold fX11_letPass
  by_cases g1 : p ≤ j
  · refine ⟨0, pm, X1, Y1, eq_b j2 (eq_t ?_ rfl), eq_b j3 (eq_f c4 (eq_t (by rw [q13]; exact nI_le g1 (by omega)) (by rw [a0]))), j4⟩
    show gI X1 (128 * gR X1 1 + 16) ≤ nI j
    rw [c1, p2]
    exact nI_le g1 (by omega)
  · have n1 : ¬ gI X1 (128 * gR X1 1 + 16) ≤ nI j := by rw [c1, p2]; exact nI_ge (by omega) (by omega)
    have n2 : ¬ gA Y1 13 (gI Y1 13).toNatClampNeg ≤ nI j := by rw [q13]; exact nI_ge (by omega) (by omega)
    by_cases g2 : T.nc = 0
    · refine ⟨0, pm, X1, Y1, eq_b j2 (eq_f n1 (eq_t ?_ rfl)), eq_b j3 (eq_f c4 (eq_f n2 (eq_f c4 (eq_t (by rw [c5, g2]; decide) (by rw [a0]))))), j4⟩
      show gI X1 (128 * gR X1 1 + 5) = 0
      rw [c1, c2, g2]
      rfl
    · have n3 : ¬ gI X1 (128 * gR X1 1 + 5) = 0 := by rw [c1, c2]; exact nI_ne0 (by omega) (by omega)
      have n4 : ¬ gA Y1 5 (gI Y1 13).toNatClampNeg ≤ 0 := by rw [c5]; exact nI_ge (a := 0) (by omega) (by omega)
      by_cases g3 : T.nt = 0
      · refine ⟨0, pm, X1, Y1, eq_b j2 (eq_f n1 (eq_f n3 (eq_t ?_ rfl))), eq_b j3 (eq_f c4 (eq_f n2 (eq_f c4 (eq_f n4 (eq_f c4 (eq_t (by rw [c6, g3]; decide) (by rw [a0]))))))), j4⟩
        show gI X1 (128 * gR X1 1 + 1) = 0
        rw [c1, c3, g3]
        rfl
      · have n5 : ¬ gI X1 (128 * gR X1 1 + 1) = 0 := by rw [c1, c3]; exact nI_ne0 (by omega) (by omega)
        have n6 : ¬ gA Y1 2 (gI Y1 13).toNatClampNeg ≤ 0 := by rw [c6]; exact nI_ge (a := 0) (by omega) (by omega)
        obtain ⟨j', X2, Y2, d1, d2, d3, d4⟩ := draw2 j4 (k := T.nc) (by omega) (by omega)
        obtain ⟨e1, e2, e3, e4, e5, e6⟩ := cells d4
        obtain ⟨j'', X3, Y3, f1, f2, f3, f4⟩ := draw2 d4 (k := T.nt) (by omega) (by omega)
        obtain ⟨X4, Y4, u1, u2, u3⟩ := put2 f4 d1 (t := nI j'') (Or.inr ⟨j'', f1, rfl⟩)
        refine ⟨1, _, X4, Y4, eq_b j2 (eq_f n1 (eq_f n3 (eq_f n5 (eq_b (z := (nI j', X2)) ?_ (eq_b (z := (nI j'', X3)) ?_ (eq_b u1 rfl)))))), eq_b j3 (eq_f c4 (eq_f n2 (eq_f c4 (eq_f n4 (eq_f c4 (eq_f n6 (eq_f c4 (eq_b (z := (nI j', Y2)) ?_ (eq_f e4 (eq_b (z := (nI j'', Y3)) ?_ (eq_b u2 rfl))))))))))), u3⟩
        · show fX11_draw n0 (gI X1 (128 * gR X1 1 + 5)) X1 = _
          rw [c1, c2]
          exact d2
        · show fX11_draw n0 (gI X2 (128 * gR X2 1 + 1)) X2 = _
          rw [e1, e3]
          exact f2
        · show fX12_draw n0 (gA Y1 5 (gI Y1 13).toNatClampNeg) Y1 = _
          rw [c5]
          exact d3
        · show fX12_draw n0 (gA Y2 2 (gI Y2 13).toNatClampNeg) Y2 = _
          rw [e6]
          exact f3
abbrev xhL (n0 : Nat) : Nat → Int32 → Int32 → Int32 → Mem → Option (Int32 × Mem) := loopN (bX11_chance_40 n0) (fun _ _ _ _ => none)
abbrev yhL (n0 : Nat) : Nat → Int32 → Int32 → Int32 → Mem → Option (Int32 × Mem) := loopN (bX12_chance_25 n0) (fun _ _ _ _ => none)
theorem chL {n0 q b : Nat} {T : TP} {nr C n : Nat} (hn : 1700 ≤ n0) (h100 : n ≤ 100) : ∀ w k m (acc : Int32) (pm : Nat → Int32 × Nat) (s : Nat × List (Nat × Nat)) (MX MY : Mem), k ≤ n → n < w + k → m + (n - k) ≤ 9999 → RR n0 q b T nr C m pm s MX MY → ∃ r MX' MY', xhL n0 w (nI n) acc (nI k) MX = some (r, MX') ∧ yhL n0 w (nI n) acc (nI k) MY = some (r, MY') ∧ R n0 MX' MY'
  | 0, k, _, _, _, _, _, _, hk, hw, _, _ => by omega
  | w + 1, k, m, acc, pm, s, MX, MY, hk, hw, hm, h => by
    show ∃ r MX' MY', bX11_chance_40 n0 (xhL n0 w) (nI n) acc (nI k) MX = _ ∧ bX12_chance_25 n0 (yhL n0 w) (nI n) acc (nI k) MY = _ ∧ _
    unfold bX11_chance_40 bX12_chance_25
    by_cases g : k = n
    · rw [g]
      exact ⟨acc, MX, MY, eq_t (Int32.le_refl _) rfl, eq_t (Int32.le_refl _) rfl, q, b, T, nr, C, m, pm, s, h⟩
    · have hc : ¬ nI n ≤ nI k := nI_ge (by omega) (by omega)
      obtain ⟨X1, Y1, a1, a2, a3⟩ := tick2 hn h (by omega)
      obtain ⟨r, pm', X2, Y2, b1, b2, b3⟩ := pass2 (yhL n0 w) (nI n) acc (nI k) a3
      obtain ⟨r2, X3, Y3, c1, c2, c3⟩ := due2 hn b3
      obtain ⟨r', X4, Y4, d1, d2, d3⟩ := chL hn h100 w (k + 1) (m + 1) (acc + r) _ _ X3 Y3 (by omega) (by omega) (by omega) c3
      have k1 : nI k + 1 = nI (k + 1) := nI_add k 1
      refine ⟨r', X4, Y4, eq_f hc (eq_b a1 (eq_b b1 (eq_n (eq_b c1 ?_)))), eq_f hc (eq_b a2 (b2.trans ?_)), d3⟩
      · rw [k1]; exact d1
      · unfold fX12_chance_115
        refine eq_b c2 ?_
        rw [k1]; exact d2
theorem cChance {n0 : Nat} {x : Int32} {MX MY : Mem} (hn : 1700 ≤ n0) (h : R n0 MX MY) : Cal n0 (fX11_chance n0 x MX) (fX12_chance n0 x MY) := by
  have h0 := h
  obtain ⟨q, b, T, nr, C, m, pm, s, h⟩ := h
  have hm := h.2.1.1
  have y : gA MY 28 0 = nI m := h.2.2.2.1.1.1
  have bad : ∀ f g, f = fX11_chance_19 n0 MX → g = (fX12_refuses n0 2 MY).bind (fun z13 => some (z13.1, z13.2)) → Cal n0 f g := fun f g e1 e2 => by
    refine Cal.ref (k := 2) (r := -1) h0 (by decide) (e1.trans ?_) (e2.trans ?_)
    · unfold fX11_chance_19
      exact eq_b (xref (k := 2) (by decide)) rfl
    · exact eq_b (yref (k := 2) (by decide)) rfl
  unfold fX11_chance fX12_chance
  rcases yah (n0 := n0) (lo := 1) (hi := 100) x y hm (by decide) (by decide) with ⟨k, k1, k2, k3, rfl, e⟩ | ⟨z, e⟩
  · rcases ahead2 h k k2 with ⟨_, e1, _⟩ | ⟨g, _⟩
    · obtain ⟨X1, Y1, a1, a2, a3⟩ := remem hn h
      obtain ⟨r, X2, Y2, b1, b2, b3⟩ := chL hn k2 n0 0 m 0 pm s X1 Y1 (by omega) (by omega) (by omega) a3
      exact ⟨r, X2, Y2, eq_f (fun z => by have := (nI_ltI (b := 1) (by omega) (by decide)).mp z; omega) (eq_f (fun z => by have := (nI_ltI (a := 100) (by decide) (by omega)).mp z; omega) (eq_b e1 (eq_t rfl (eq_b a1 b1)))), eq_b e (eq_f (show ¬ (1 : Int32) = 0 by decide) (eq_b a2 b2)), b3⟩
    · exact absurd k3 g
  · refine bad _ _ ?_ (eq_b e (eq_t rfl rfl))
    rcases z with z | z | ⟨k, k1, k2, rfl, k3⟩
    · exact eq_t z rfl
    · by_cases g : x < 1
      · exact eq_t g rfl
      · exact eq_f g (eq_t z rfl)
    · rcases ahead2 h k k2 with ⟨g, _⟩ | ⟨_, e1, _⟩
      · exact absurd g k3
      · exact eq_f (fun z => by have := (nI_ltI (b := 1) (by omega) (by decide)).mp z; omega) (eq_f (fun z => by have := (nI_ltI (a := 100) (by decide) (by omega)).mp z; omega) (eq_b e1 (eq_f (show ¬ (1 : Int32) = 0 by decide) rfl)))
end
section
/-! A TOWN ON BOTH SIDES, FROM THE CALL TO ITS ANSWER -/
abbrev xbD (n0 q1 : Nat) : Nat → Int32 → Mem → Option Mem := loopN (bX6_begin_50 n0 q1) (fun _ _ => none)
theorem xb50 {n0 q1 nd : Nat} (h6 : nd ≤ 6) : ∀ w d M, d ≤ nd → nd < w + d → gI M (128 * gR M 1280 + 12) = nI nd → ∃ M', xbD n0 q1 w (nI d) M = some M' ∧ (∀ e, d ≤ e → e < nd → gA M' 13 e = 0) ∧ gR M' = gR M ∧ gL M' = gL M ∧ gB M' = gB M ∧ gI M' = gI M ∧ ∀ a i, ¬ (a = 13 ∧ d ≤ i) → gA M' a i = gA M a i
  | 0, d, M, hd, hw, _ => by omega
  | w + 1, d, M, hd, hw, h12 => by
    show ∃ M', bX6_begin_50 n0 q1 (xbD n0 q1 w) (nI d) M = _ ∧ _
    unfold bX6_begin_50
    by_cases g : d = nd
    · exact ⟨M, eq_t (by rw [h12, g]; exact Int32.le_refl _) rfl, fun e h1 h2 => by omega, rfl, rfl, rfl, rfl, fun _ _ _ => rfl⟩
    · have cd : (nI d).toNatClampNeg = d := nI_clamp (by omega)
      obtain ⟨M', r1, r2, r3, r4, r5, r6, r7⟩ := xb50 h6 w (d + 1) (sA M 13 d 0) (by omega) (by omega) h12
      refine ⟨M', eq_f (by rw [h12]; exact nI_ge (by omega) (by omega)) (eq_f (nI_in (by omega) (by decide)) (eq_e (v' := sA M 13 d 0) (by rw [cd]) ?_)), fun e h1 h2 => ?_, r3, r4, r5, r6, fun a i z => ?_⟩
      · rw [show nI d + 1 = nI (d + 1) from nI_add d 1]
        exact r1
      · by_cases h : e = d
        · rw [h, r7 13 d (by omega), gA_sA, if_pos rfl, if_pos rfl]
        · exact r2 e (by omega) h2
      · rw [r7 a i (by omega), gA_sA]
        by_cases h : a = 13
        · rw [if_pos h, if_neg (by omega), h]
        · rw [if_neg h]
abbrev xbC (n0 q1 : Nat) : Nat → Int32 → Mem → Option Mem := loopN (bX6_begin_17 n0 q1) (fun _ _ => none)
theorem xb17 {n0 q1 nc nd : Nat} {pa : Nat → Int32} (hn : 1700 ≤ n0) (h5 : nc ≤ 5) (h6 : nd ≤ 6) : ∀ w c M, c ≤ nc → nc < w + c → gI M (128 * gR M 1280 + 5) = nI nc → gI M (128 * gR M 1280 + 12) = nI nd → 15 < gR M 1280 → (∀ j, j < nc → gA M (gR M 1280 + 5) j = pa j) → ∃ M', xbC n0 q1 w (nI c) M = some M' ∧ (∀ j, c ≤ j → j < nc → gA M' 11 j = pa j ∧ gA M' 12 j = 0) ∧ (∀ e, e < nd → gA M' 13 e = 0) ∧ gR M' = gR M ∧ gL M' = gL M ∧ gB M' = gB M ∧ gI M' = gI M ∧ ∀ a i, ¬ (a = 13 ∨ ((a = 11 ∨ a = 12) ∧ c ≤ i)) → gA M' a i = gA M a i
  | 0, c, M, hc, hw, _, _, _, _ => by omega
  | w + 1, c, M, hc, hw, e5, e12, hq, hp => by
    show ∃ M', bX6_begin_17 n0 q1 (xbC n0 q1 w) (nI c) M = _ ∧ _
    unfold bX6_begin_17
    by_cases g : c = nc
    · obtain ⟨M', r1, r2, r3, r4, r5, r6, r7⟩ := xb50 (n0 := n0) (q1 := q1) h6 n0 0 M (by omega) (by omega) e12
      exact ⟨M', eq_t (by rw [e5, g]; exact Int32.le_refl _) r1, fun j h1 h2 => by omega, fun e he => r2 e (by omega) he, r3, r4, r5, r6, fun a i z => r7 a i (by omega)⟩
    · have cc : (nI c).toNatClampNeg = c := nI_clamp (by omega)
      have pt : fX6_put n0 (nI c) (gA M (gR M 1280 + 5) (nI c).toNatClampNeg) M = some (sA (sA M 11 c (pa c)) 12 c 0) := by
        rw [cc, hp c (by omega)]
        unfold fX6_put
        simp only [cc]
        exact eq_f (nI_nn (by omega)) (eq_f (nI_ge (b := 5) (by omega) (by decide)) (eq_f (nI_in (by omega) (by decide)) (eq_n (eq_f (nI_in (by omega) (by decide)) rfl))))
      obtain ⟨M', r1, r2, r3, r4, r5, r6, r7, r8⟩ := xb17 (pa := pa) hn h5 h6 w (c + 1) (sA (sA M 11 c (pa c)) 12 c 0) (by omega) (by omega) e5 e12 hq (fun j hj => by
        show gA (sA (sA M 11 c (pa c)) 12 c 0) (gR M 1280 + 5) j = _
        rw [gA_sA_ne (by omega), gA_sA_ne (by omega)]
        exact hp j hj)
      refine ⟨M', eq_f (by rw [e5]; exact nI_ge (by omega) (by omega)) (eq_f (nI_in (by omega) (by decide)) (eq_b pt ?_)), fun j h1 h2 => ?_, r3, r4, r5, r6, r7, fun a i z => ?_⟩
      · rw [show nI c + 1 = nI (c + 1) from nI_add c 1]
        exact r1
      · by_cases h : j = c
        · rw [h, r8 11 c (by omega), r8 12 c (by omega), gA_sA_ne (by decide), gA_sA, if_pos rfl, if_pos rfl, gA_sA, if_pos rfl, if_pos rfl]
          exact ⟨rfl, rfl⟩
        · exact r2 j (by omega) h2
      · rw [r8 a i (by omega), gA_sA]
        by_cases h : a = 12
        · rw [if_pos h, if_neg (by omega), gA_sA_ne (by decide), h]
        · rw [if_neg h, gA_sA]
          by_cases h' : a = 11
          · rw [if_pos h', if_neg (by omega), h']
          · rw [if_neg h']
abbrev ybC (n0 : Nat) : Nat → Int32 → Mem → Option Mem := loopN (bX12_begin_16 n0) (fun _ _ => none)
theorem yb16 {n0 b nc : Nat} {pa : Nat → Int32} (h5 : nc ≤ 5) (hb : b ≤ 1) : ∀ w c M, c ≤ nc → nc < w + c → gI M 13 = nI b → gA M 5 b = nI nc → (∀ j, j < nc → gA M 6 (5 * b + j) = pa j) → ∃ M', ybC n0 w (nI c) M = (fX12_finishesDoings n0 0 (sI (sI (sA M' 32 0 0) 54 0) 61 0)).bind (fun z => some z.2) ∧ (∀ j, c ≤ j → j < nc → gA M' 29 j = pa j ∧ gA M' 30 j = 0) ∧ gR M' = gR M ∧ gL M' = gL M ∧ gB M' = gB M ∧ gI M' = gI M ∧ ∀ a i, ¬ ((a = 29 ∨ a = 30) ∧ c ≤ i ∧ i < 5) → gA M' a i = gA M a i
  | 0, c, M, hc, hw, _, _, _ => by omega
  | w + 1, c, M, hc, hw, h13, e5, hp => by
    show ∃ M', bX12_begin_16 n0 (ybC n0 w) (nI c) M = _ ∧ _
    have cb : (nI b).toNatClampNeg = b := nI_clamp (by omega)
    have o13 : ¬ oob (gI M 13) 2 := by rw [h13]; exact nI_in (by omega) (by decide)
    have q5 : gA M 5 (gI M 13).toNatClampNeg = nI nc := by rw [h13, cb]; exact e5
    unfold bX12_begin_16
    by_cases g : c = nc
    · exact ⟨M, eq_f o13 (eq_t (by rw [q5, g]; exact Int32.le_refl _) (eq_f (by decide) rfl)), fun j h1 h2 => by omega, rfl, rfl, rfl, rfl, fun _ _ _ => rfl⟩
    · have cc : (nI c).toNatClampNeg = c := nI_clamp (by omega)
      have c5 : (nI (5 * b + c)).toNatClampNeg = 5 * b + c := nI_clamp (by omega)
      have ix : (5 : Int32) * gI M 13 + nI c = nI (5 * b + c) := by rw [h13, yIx]
      obtain ⟨M', r1, r2, r3, r4, r5, r6, r7⟩ := yb16 (n0 := n0) (pa := pa) h5 hb w (c + 1) (sA (sA M 29 c (pa c)) 30 c 0) (by omega) (by omega) h13 (by rw [gA_sA_ne (by decide), gA_sA_ne (by decide)]; exact e5) (fun j hj => by rw [gA_sA_ne (by decide), gA_sA_ne (by decide)]; exact hp j hj)
      refine ⟨M', eq_f o13 (eq_f (by rw [q5]; exact nI_ge (by omega) (by omega)) (eq_f (by rw [ix]; exact nI_in (by omega) (by decide)) (eq_f (nI_in (by omega) (by decide)) (eq_e (v' := sA M 29 c (pa c)) (by rw [ix, cc, c5, hp c (by omega)]) (eq_f (nI_in (by omega) (by decide)) (eq_e (v' := sA (sA M 29 c (pa c)) 30 c 0) (by rw [cc]) ?_)))))), fun j h1 h2 => ?_, r3, r4, r5, r6, fun a i z => ?_⟩
      · rw [show nI c + 1 = nI (c + 1) from nI_add c 1]
        exact r1
      · by_cases h : j = c
        · rw [h, r7 29 c (by omega), r7 30 c (by omega), gA_sA_ne (by decide), gA_sA, if_pos rfl, if_pos rfl, gA_sA, if_pos rfl, if_pos rfl]
          exact ⟨rfl, rfl⟩
        · exact r2 j (by omega) h2
      · rw [r7 a i (by omega), gA_sA]
        by_cases h : a = 30
        · rw [if_pos h, if_neg (by omega), gA_sA_ne (by decide), h]
        · rw [if_neg h, gA_sA]
          by_cases h' : a = 29
          · rw [if_pos h', if_neg (by omega), h']
          · rw [if_neg h']
theorem TownR.nine {q b nt nc nd nr C : Nat} {MX MY MY' : Mem} (h : TownR q b nt nc nd nr C MX MY) (hA : ∀ a, ¬ a = 9 → gA MY' a = gA MY a) (hB : gB MY' = gB MY) : TownR q b nt nc nd nr C MX MY' := by
  have h2 : TownR q b nt nc nd nr C MX (sF MY' 9 (gA MY 9)) := h.cong (fun _ _ _ => rfl) (fun _ _ _ => rfl) (fun a i _ _ => by
    rw [gA_sF]
    by_cases z : a = 9
    · rw [if_pos z, z]
    · rw [if_neg z, hA a z]) (fun a i _ => by
    show gB MY' a i = gB MY a i
    rw [hB])
  exact h2
/-- a town's functions out of the town that was read -/
theorem townT {n0 q b nt nc nd nr C : Nat} {MX MY : Mem} (hn : 1700 ≤ n0) (hT : TownR q b nt nc nd nr C MX MY) (hq : q = 31 ∨ q = 47) (hb : b ≤ 1) (h13 : gI MY 13 = nI b) : ∃ T : TP, T.nt = nt ∧ T.nc = nc ∧ T.nd = nd ∧ XT n0 q T MX ∧ YT n0 b T MY := by
  obtain ⟨hF, gF, fx, fy⟩ := townF hn hT hq hb
  obtain ⟨⟨⟨a1, a2, a3⟩, ⟨a4, a5, a6⟩, ⟨a7, a8, a9⟩⟩, b1, b2, b3, _⟩ := hT
  have t6 := a3.1
  have c5 := a6.1
  have d6 := a9.1
  have dk : ∀ d, d < nd → gA MX (q + 10) d = nI (gA MX (q + 10) d).toNatClampNeg ∧ (gA MX (q + 10) d).toNatClampNeg < nc ∧ gA MX (q + 11) d = nI (gA MX (q + 11) d).toNatClampNeg ∧ (gA MX (q + 11) d).toNatClampNeg ≤ 23 ∧ gA MY 11 (6 * b + d) = gA MX (q + 10) d ∧ gA MY 12 (6 * b + d) = gA MX (q + 11) d := fun d hd => by
    obtain ⟨e1, ⟨k, k1, k2⟩, e2, ⟨v, v1, v2⟩⟩ := b3 d hd
    refine ⟨?_, ?_, ?_, ?_, e1.symm, e2.symm⟩
    · rw [k2, nI_clamp (by omega)]
    · rw [k2, nI_clamp (by omega)]; exact k1
    · rw [v2, nI_clamp (by omega)]
    · rw [v2, nI_clamp (by omega)]; exact v1
  have ok : TP.ok (nt, nc, nd, (fun d => (gA MX (q + 10) d).toNatClampNeg), (fun d => (gA MX (q + 11) d).toNatClampNeg), hF, gF) := ⟨t6, c5, d6, fun d hd => ⟨(dk d hd).2.1, (dk d hd).2.2.2.1⟩⟩
  exact ⟨(nt, nc, nd, (fun d => (gA MX (q + 10) d).toNatClampNeg), (fun d => (gA MX (q + 11) d).toNatClampNeg), hF, gF), rfl, rfl, rfl, ⟨⟨hq, t6, a1, fx⟩, ok, a4, a7, fun d hd => ⟨(dk d hd).1, (dk d hd).2.2.1⟩⟩, ⟨fy, ok, hb, h13, a2, a5, a8, fun d hd => ⟨(dk d hd).2.2.2.2.1.trans (dk d hd).1, (dk d hd).2.2.2.2.2.trans (dk d hd).2.2.1⟩⟩⟩
end
section
/-! A TOWN ON BOTH SIDES: the call -/
theorem zbit (e : Nat) : nI (0 / 2 ^ e % 2) = 0 := by rw [Nat.zero_div]; rfl
theorem townGood {n0 q b L sx nt nc nd nr C j x0 f : Nat} {MX MY X1 Y1 : Mem} (hn : 1700 ≤ n0) (hq : q = 31 ∨ q = 47) (hb : b ≤ 1) (hR1 : gR MX 1 = 78 - q) (hR2 : gR MX 2 = q) (ho : RO MX MY) (hx0 : x0 < 20) (hf : f < 20) (u1 : gI MX 2049 = nI x0) (u2 : gI MY 53 = nI f)
    (k1 : fX4_read n0 q MX = some (1, X1)) (k2 : fX12_town n0 MY = fX12_town_196 n0 (nI j) Y1) (k4 : Rd L sx q b nt nc nd nr C X1 Y1) (k5 : gI X1 (128 * q) = nI j) (fX : FX4 q MX X1) (fY : FY4 b MY Y1) (y1 : gI Y1 1 = 0) : Cal n0 (fX11_town n0 MX) (fX12_town n0 MY) := by
  obtain ⟨⟨_, _, x391, x392, y8, y9⟩, ⟨_, _, at3, _⟩, hTR, _, _⟩ := k4
  have g1 : gR X1 1 = 78 - q := (fX.2.2 1 (by decide) (by decide)).trans hR1
  have g2 : gR X1 2 = q := (fX.2.2 2 (by decide) (by decide)).trans hR2
  -- the class, as far as its begin
  have hX2 : ∃ X2, X2 = sR (sR (sI (sI (sI X1 641 0) 15 0) 16 (-1)) 1 q) 2 (78 - q) := ⟨_, rfl⟩
  obtain ⟨X2, eX2⟩ := hX2
  have hX4 : ∃ X4, X4 = sI (sI (sR (sR X2 896 q) 1280 q) 1281 0) 1285 0 := ⟨_, rfl⟩
  obtain ⟨X4, eX4⟩ := hX4
  have r1 : gR X4 1 = q := by rw [eX4, eX2]; rfl
  have r2 : gR X4 2 = 78 - q := by rw [eX4, eX2]; rfl
  have r3 : gR X4 896 = q := by rw [eX4]; rfl
  have r4 : gR X4 1280 = q := by rw [eX4]; rfl
  have i4 : ∀ k, ¬ (k = 641 ∨ k = 15 ∨ k = 16 ∨ k = 1281 ∨ k = 1285) → gI X4 k = gI X1 k := fun k z => by
    rw [eX4, gI_ne (by omega), gI_ne (by omega)]
    show gI X2 k = _
    rw [eX2]
    show gI (sI (sI (sI X1 641 0) 15 0) 16 (-1)) k = _
    rw [gI_ne (by omega), gI_ne (by omega), gI_ne (by omega)]
  have a4 : gA X4 = gA X1 := by rw [eX4, eX2]; rfl
  have tw4 : xTw q X1 X4 := ⟨fun k z _ => i4 k (by omega), fun a _ _ => by rw [a4]⟩
  -- the reference, as far as its begin
  have hY2 : ∃ Y2, Y2 = sI (sI Y1 10 0) 11 (-1) := ⟨_, rfl⟩
  obtain ⟨Y2, eY2⟩ := hY2
  obtain ⟨Y3, m1, m2, m3, m4, m5, m6⟩ := measures (n0 := n0) (b := b) (M := Y2) hn hb (by rw [eY2, gI_ne (by decide), gI_ne (by decide)]; exact at3)
  have hY4 : ∃ Y4, Y4 = sI Y3 13 (nI b) := ⟨_, rfl⟩
  obtain ⟨Y4, eY4⟩ := hY4
  have A4 : ∀ a, ¬ a = 9 → gA Y4 a = gA Y1 a := fun a z => by
    rw [eY4]
    show gA Y3 a = _
    funext i
    rw [m6 a i (fun y => z y.1), eY2]
    rfl
  have B4 : gB Y4 = gB Y1 := by rw [eY4]; show gB Y3 = _; rw [m5, eY2]; rfl
  have L4 : gL Y4 = gL Y1 := by rw [eY4]; show gL Y3 = _; rw [m4, eY2]; rfl
  have I4 : ∀ k, ¬ (k = 10 ∨ k = 11 ∨ k = 13) → gI Y4 k = gI Y1 k := fun k z => by
    rw [eY4, gI_ne (by omega), m2, eY2, gI_ne (by omega), gI_ne (by omega)]
  have I13 : gI Y4 13 = nI b := by rw [eY4, gI_at]
  have TR4 : TownR q b nt nc nd nr C X4 Y4 := (hTR.tw tw4 yTw.r).nine A4 B4
  obtain ⟨T, t1, t2, t3, t4, t5⟩ := townT hn TR4 hq hb I13
  subst t1 t2 t3
  have ok := t4.2.1
  obtain ⟨o1, o2, o3, _⟩ := ok
  have pmD := TR4.2.2.1
  -- the class begins
  obtain ⟨X5, c1, c2, c3, c4, c5, c6, c7, c8⟩ := xb17 (n0 := n0) (q1 := q) (pa := gA X4 (q + 5)) hn o2 o3 n0 0 X4 (by omega) (by omega) (by rw [r4]; exact t4.2.2.1) (by rw [r4]; exact t4.2.2.2.1) (by rw [r4]; omega) (fun j _ => by rw [r4])
  have tw5 : xTw q X4 X5 := ⟨fun k _ _ => by rw [c7], fun a z1 z2 => by funext i; exact c8 a i (by omega)⟩
  have T5 := t4.tw tw5
  have S5 : SX q T.nc T.nd 0 (fun c => (gA X4 (q + 5) c, 0)) (0, []) X5 := by
    refine ⟨by rw [c4]; exact r3, by rw [c4]; exact r4, by rw [c7, eX4, gI_ne (by decide), gI_at]; rfl, fun c hc => c2 c (by omega) hc, fun d hd => ?_, by rw [c7, eX4, gI_at]; rfl, fun i p hp => by simp at hp⟩
    rw [c3 d hd]
    exact (zbit d).symm
  have Ps : PsO T.nt T.nc (fun c => (gA X4 (q + 5) c, 0)) := fun c hc => ⟨(pmD c hc).2, Nat.zero_le _⟩
  have sO : sOk T.nd (0, []) := ⟨Nat.pow_pos (by decide), Nat.zero_le _⟩
  obtain ⟨X6, d1, d2, d3⟩ := xfin hn T5 S5 Ps (by omega) sO
  -- the reference begins
  obtain ⟨Y5, e1, e2, e3, e4, e5, e6, e7⟩ := yb16 (n0 := n0) (b := b) (nc := T.nc) (pa := gA X4 (q + 5)) o2 hb n0 0 (sA (sA Y4 28 0 0) 31 0 0) (by omega) (by omega) I13 (by rw [gA_sA_ne (by decide), gA_sA_ne (by decide)]; exact t5.2.2.2.2.2.1) (fun j hj => by rw [gA_sA_ne (by decide), gA_sA_ne (by decide)]; exact (pmD j hj).1.symm)
  have hY6 : ∃ Y6, Y6 = sI (sI (sA Y5 32 0 0) 54 0) 61 0 := ⟨_, rfl⟩
  obtain ⟨Y6, eY6⟩ := hY6
  rw [← eY6] at e1
  have A6 : ∀ a, ¬ (28 ≤ a ∧ a ≤ 32) → gA Y6 a = gA Y4 a := fun a z => by
    rw [eY6]
    show gA (sA Y5 32 0 0) a = _
    rw [gA_sA_ne (by omega)]
    funext i
    rw [e7 a i (by omega), gA_sA_ne (by omega), gA_sA_ne (by omega)]
  have I6 : ∀ k, ¬ (k = 54 ∨ k = 61) → gI Y6 k = gI Y4 k := fun k z => by
    rw [eY6, gI_ne (by omega), gI_ne (by omega)]
    show gI Y5 k = _
    rw [e6]
    rfl
  have B6 : gB Y6 = gB Y4 := by rw [eY6]; show gB Y5 = _; rw [e5]; rfl
  have L6 : gL Y6 = gL Y4 := by rw [eY6]; show gL Y5 = _; rw [e4]; rfl
  have T6 : YT n0 b T Y6 := t5.tw (yTw.all (fun a z1 z2 => A6 a (by omega)) (fun a _ _ => by rw [B6])) (I6 13 (by decide))
  have L6d : LyD 0 T.nc 0 (fun c => (gA X4 (q + 5) c, 0)) (0, []) Y6 := by
    refine ⟨⟨?_, fun c hc => ?_⟩, ?_, ?_, fun i p hp => by simp at hp⟩
    · rw [eY6]
      show gA (sA Y5 32 0 0) 28 0 = _
      rw [gA_sA_ne (by decide), e7 28 0 (by omega), gA_sA_ne (by decide), gA_sA, if_pos rfl, if_pos rfl]
      rfl
    · rw [eY6]
      show gA (sA Y5 32 0 0) 29 (5 * 0 + c) = _ ∧ gA (sA Y5 32 0 0) 30 (5 * 0 + c) = _
      rw [gA_sA_ne (by decide), gA_sA_ne (by decide), show 5 * 0 + c = c by omega]
      exact e2 c (by omega) hc
    · rw [eY6]
      show gA (sA Y5 32 0 0) 31 0 = _
      rw [gA_sA_ne (by decide), e7 31 0 (by omega), gA_sA, if_pos rfl, if_pos rfl]
      rfl
    · rw [eY6]
      show gA (sA Y5 32 0 0) 32 0 = _
      rw [gA_sA, if_pos rfl, if_pos rfl]
      rfl
  obtain ⟨Y7, z1, z2, z3⟩ := yfinD (v := 0) hn T6 (by decide) L6d Ps sO (by omega)
  -- both calls
  have hX7 : ∃ X7, X7 = sI (sI X6 2050 0) 2688 0 := ⟨_, rfl⟩
  obtain ⟨X7, eX7⟩ := hX7
  have rX6 : gR X6 = gR X4 := d3.1.trans c4
  have iX6 : ∀ k, ¬ ((897 ≤ k ∧ k ≤ 900) ∨ k = 903 ∨ stI k) → gI X6 k = gI X4 k := fun k z => (d3.2.2.2.2 k z).trans (by rw [c7])
  have aX6 : ∀ a, ¬ (a = 8 ∨ a = 9 ∨ stA a) → gA X6 a = gA X1 a := fun a z => (d3.2.2.2.1 a z).trans (by funext i; rw [c8 a i (by unfold stA at z; omega), a4])
  have iX7 : ∀ k, ¬ (k = 2050 ∨ k = 2688) → gI X7 k = gI X6 k := fun k z => by rw [eX7, gI_ne (by omega), gI_ne (by omega)]
  have aX7 : gA X7 = gA X6 := by rw [eX7]; rfl
  have rX7 : gR X7 = gR X6 := by rw [eX7]; rfl
  have tw7 : xTw q X4 X7 := ⟨fun k p1 p2 => (iX7 k (by omega)).trans (iX6 k (by unfold stI; omega)), fun a p1 p2 => by rw [aX7, aX6 a (by unfold stA; omega), a4]⟩
  have cX : fX11_town n0 MX = some (nI j, X7) := by
    unfold fX11_town
    rw [hR2]
    refine eq_b k1 (eq_n (eq_e (v' := sI (sI X1 641 0) 15 0) ?_ (eq_e (v' := sI (sI (sI X1 641 0) 15 0) 16 (-1)) ?_ (eq_f (show ¬ (1 : Int32) = 0 by decide) (eq_e (v' := sR (sI (sI (sI X1 641 0) 15 0) 16 (-1)) 1 q) ?_ (eq_e (v' := X2) ?_ (eq_b (z := X7) ?_ ?_)))))))
    · rw [gI_ne (by decide), x391]
    · rw [gI_ne (by decide), gI_ne (by decide), x392]
    · rw [show gR (sI (sI (sI X1 641 0) 15 0) 16 (-1)) 2 = q from g2]
    · rw [show gR (sI (sI (sI X1 641 0) 15 0) 16 (-1)) 1 = 78 - q from g1, eX2]
    · unfold fX11_begin
      have rr : gR X2 1 = q := by rw [eX2]; rfl
      rw [rr]
      refine eq_n (eq_b (z := X5) ?_ (eq_b d1 (eq_n ?_)))
      · rw [show gR (sR X2 896 q) 1 = q from rr]
        unfold fX6_begin
        refine eq_n (eq_n (eq_e (v' := X4) (by rw [eX4]) c1))
      · rw [eX7]
    · rw [show gR X7 1 = q by rw [rX7, rX6]; exact r1, Nat.add_zero, iX7 _ (by omega), iX6 _ (by unfold stI; omega), i4 _ (by omega), k5]
  have cY : fX12_town n0 MY = some (nI j, Y7) := by
    rw [k2]
    unfold fX12_town_196
    refine eq_e (v' := sI Y1 10 0) (by rw [y8]) (eq_e (v' := Y2) ?_ (eq_t ?_ (eq_b m1 (eq_e (v' := Y4) ?_ (eq_b (z := Y7) ?_ rfl)))))
    · rw [gI_ne (by decide), y9, eY2]
    · rw [eY2, gI_ne (by decide), gI_ne (by decide), y8]; decide
    · rw [eY4, m2, eY2, gI_ne (by decide), gI_ne (by decide), at3]
    · unfold fX12_begin
      exact eq_f (by decide) (eq_n (eq_f (by decide) (eq_n (Eq.trans e1 (eq_b z1 rfl)))))
  have xI : ∀ k, k = 14 ∨ k = 17 ∨ k = 2049 → gI X7 k = gI MX k := fun k z => (iX7 k (by omega)).trans ((iX6 k (by unfold stI; omega)).trans ((i4 k (by omega)).trans (fX.1 k (by unfold rgX; omega))))
  have xA : ∀ a, a = 4 ∨ a = 6 ∨ a = 29 ∨ a = 30 → gA X7 a = gA MX a := fun a z => by rw [aX7, aX6 a (by unfold stA; omega)]; exact fX.2.1 a (by omega)
  have iY7 : ∀ k, gI Y7 k = gI Y6 k := fun k => by rw [z3.2.2.1]
  have yA : ∀ a, a = 1 ∨ a = 27 ∨ a = 43 → gA Y7 a = gA MY a := fun a z => by
    rw [z3.gA (fun i y => by unfold lP tP dP at y; omega) (by omega), A6 a (by omega), A4 a (by omega)]
    funext i
    exact fY.2.1 a i (by unfold regA; omega)
  have TR7 : TownR q b T.nt T.nc T.nd nr C X7 Y7 := TR4.tw tw7 (yTw.all (fun a p1 p2 => by rw [z3.gA (fun i y => by unfold lP tP dP at y; omega) (by omega), A6 a (by omega)]) (fun a p1 p2 => by rw [z3.2.2.2.2 a (by omega), B6]))
  obtain ⟨h1, h2, h3, h4, h5, h6⟩ := ho
  refine ⟨nI j, X7, Y7, cX, cY, q, b, T, nr, C, 0, (fun c => (gA X4 (q + 5) c, 0)), fnS (due T (fun c => (gA X4 (q + 5) c, 0)) 0) 0 (0, []) T.nd, ⟨hq, by rw [rX7, rX6]; exact r1, by rw [rX7, rX6]; exact r2, t4.tw tw7, T6.yf z3 lP28, TR7, rfl, rfl, rfl⟩, ⟨by omega, Ps, fnS_ok o3 sO _ (Nat.le_refl _)⟩, d2.cgs rX7 (iX7 1281 (by decide)) (iX7 1285 (by decide)) (fun a _ _ => by rw [aX7]), z2, ?_, ?_, ?_, ?_, ?_, ?_, ?_, ?_⟩
  · refine ⟨x0, f, 0, fun _ => (0, (fun _ => (-1, 0)), 0, 0), hx0, hf, by omega, ?_, ?_, ?_, ?_, fun i hi => by omega, fun i j _ hj => by omega⟩
    · rw [xI 2049 (by omega), u1, Nat.add_zero, Nat.mod_eq_of_lt hx0]
    · rw [eX7, gI_ne (by decide), gI_at]; rfl
    · rw [iY7, I6 53 (by decide), I4 53 (by decide), fY.1 53 (by unfold regI; omega)]; exact u2
    · rw [iY7, eY6, gI_ne (by decide), gI_at]; rfl
  · exact ⟨0, by omega, by rw [eX7, gI_at]; rfl, by rw [iY7, eY6, gI_at]; rfl, fun k hk => by omega⟩
  · exact h1.cg (xI 17 (by omega)) (by rw [z3.2.1, L6, L4]; exact fY.2.2.1 55 (by decide))
  · exact h2.cg (xI 14 (by omega)) (by rw [iY7, I6 67 (by decide), I4 67 (by decide)]; exact fY.1 67 (by unfold regI; omega)) (xA 29 (by omega)) (yA 43 (by omega))
  · exact h3.cg (xA 30 (by omega)) (yA 27 (by omega))
  · refine ⟨?_, ?_⟩
    · rw [iX7 15 (by decide), iX6 15 (by unfold stI; decide), iY7, I6 10 (by decide), eX4, gI_ne (by decide), gI_ne (by decide), eY4, gI_ne (by decide), m2, eY2, gI_ne (by decide), gI_at, eX2]
      rfl
    · rw [iX7 16 (by decide), iX6 16 (by unfold stI; decide), iY7, I6 11 (by decide), eX4, gI_ne (by decide), gI_ne (by decide), eY4, gI_ne (by decide), m2, eY2, gI_at, eX2]
      rfl
  · obtain ⟨L, l1, l2, l3, l4, l5⟩ := h5
    refine ⟨0, by omega, ?_, ?_, by rw [xA 6 (by omega), yA 1 (by omega)]; exact l4, fun i hi => by omega⟩
    · rw [iX7 641 (by decide), iX6 641 (by unfold stI; decide), eX4, gI_ne (by decide), gI_ne (by decide), eX2]
      rfl
    · rw [iY7, I6 1 (by decide), I4 1 (by decide), y1]
      rfl
  · exact h6.cg (xA 4 (by omega))
theorem cTown {n0 : Nat} {MX MY : Mem} (hn : 1700 ≤ n0) (h : R n0 MX MY) : Cal n0 (fX11_town n0 MX) (fX12_town n0 MY) := by
  obtain ⟨q, b, T, nr, C, m, pm, s, h⟩ := h
  obtain ⟨h1, h2, h3, h4, h5, h6, h7⟩ := id h
  have hq := h1.1
  have hb := h1.2.2.2.2.1.2.2.1
  have hok := h1.2.2.2.1.2.1
  have hl := h2.2.2.l
  obtain ⟨L, l1, l2, l3, l4, l5⟩ := h7.2.2.2.2.1
  rcases townC (n0 := n0) (q := 78 - q) (b := 1 - b) hn (by omega) (by omega) (by rw [h1.2.2.2.2.1.2.2.2.1]; congr 1; omega) l1 l2 l3 l4 l5 h7.2.2.2.2.2 with ⟨X1, Y1, sx, nt, nc, nd, nr', C', j, k1, k2, _, k4, k5, fX, fY, y1⟩ | ⟨X1, Y1, j, k1, k2, kF, fX, fY, y1⟩
  · obtain ⟨x0, f, u, e, a1, a2, a3, a4, a5, a6, a7, _⟩ := h5
    exact townGood hn (by omega) (by omega) (by rw [h1.2.1]; omega) h1.2.2.1 h7 (x0 := (x0 + u) % 20) (by omega) a2 a4 a6 k1 k2 k4 k5 fX fY y1
  · obtain ⟨k, f1, f2, f3, f4, f5⟩ := kF
    have hX2 : ∃ X2, X2 = sI (sI (sI X1 641 0) 15 (gI X1 391)) 16 (gI X1 392) := ⟨_, rfl⟩
    obtain ⟨X2, eX⟩ := hX2
    have hY2 : ∃ Y2, Y2 = sI (sI Y1 10 (gI Y1 8)) 11 (gI Y1 9) := ⟨_, rfl⟩
    obtain ⟨Y2, eY⟩ := hY2
    have xI : ∀ k, ¬ (k = 641 ∨ k = 15 ∨ k = 16) → ¬ (rgX (78 - q) k ∨ k = 128 * (78 - q)) → gI X2 k = gI MX k := fun k z1 z2 => by rw [eX, gI_ne (by omega), gI_ne (by omega), gI_ne (by omega)]; exact fX.1 k z2
    have xA : ∀ a, ¬ (78 - q ≤ a ∧ a < 78 - q + 16) → gA X2 a = gA MX a := fun a z => by rw [eX]; exact fX.2.1 a z
    have xR : ∀ k, ¬ k = 257 → ¬ k = 130 → gR X2 k = gR MX k := fun k z1 z2 => by rw [eX]; exact fX.2.2 k z1 z2
    have yI : ∀ k, ¬ (k = 10 ∨ k = 11) → ¬ (regI k ∨ k = 1 ∨ k = 2 ∨ k = 34) → gI Y2 k = gI MY k := fun k z1 z2 => by rw [eY, gI_ne (by omega), gI_ne (by omega)]; exact fY.1 k z2
    have yA : ∀ a i, ¬ regA (1 - b) a i → gA Y2 a i = gA MY a i := fun a i z => by rw [eY]; exact fY.2.1 a i z
    have yA2 : ∀ a, a = 1 ∨ 27 ≤ a → gA Y2 a = gA MY a := fun a z => by
      funext i
      exact yA a i (by unfold regA; omega)
    have yB : ∀ a i, ¬ regB (1 - b) a i → gB Y2 a i = gB MY a i := fun a i z => by rw [eY]; exact fY.2.2.2 a i z
    have hR : R n0 X2 Y2 := by
      refine ⟨q, b, T, nr, C, m, pm, s, h1.tw ⟨fun j z1 z2 => xI j (by omega) (by unfold rgX; omega), fun a z1 z2 => xA a (by omega)⟩ ⟨fun a i z1 z2 => yA a i (by unfold regA at z2 ⊢; omega), fun a i z => yB a i (by unfold regB at z ⊢; omega)⟩ (yI 13 (by decide) (by unfold regI; omega)) (xR 1 (by decide) (by decide)) (xR 2 (by decide) (by decide)), h2, ?_, h4.cg hok.2.1 (by omega) (fun a i z => by rw [yA2 a (by unfold lP tP dP at z; omega)]), h5.cg hok ⟨[], (List.append_nil _).symm⟩ (fun p z1 z2 => xA p (by omega)) (xI 2049 (by decide) (by unfold rgX; omega)) (xI 2050 (by decide) (by unfold rgX; omega)) (yI 53 (by decide) (by unfold regI; omega)) (yI 54 (by decide) (by unfold regI; omega)) (fun a i z => by rw [yA2 a (by unfold uP at z; omega)]), h6.cg (xI 2688 (by decide) (by unfold rgX; omega)) (yI 61 (by decide) (by unfold regI; omega)) (fun a z1 z2 => xA a (by omega)) (fun a z1 z2 => yA2 a (by omega)), ?_⟩
      · obtain ⟨s1, s2, s3, s4, s5, s6, s7⟩ := h3
        refine ⟨(xR 896 (by decide) (by decide)).trans s1, (xR 1280 (by decide) (by decide)).trans s2, (xI 1281 (by decide) (by unfold rgX; omega)).trans s3, fun c hc => ?_, fun d hd => ?_, (xI 1285 (by decide) (by unfold rgX; omega)).trans s6, fun i p hp => ?_⟩
        · rw [xA 11 (by omega), xA 12 (by omega)]; exact s4 c hc
        · rw [xA 13 (by omega)]; exact s5 d hd
        · rw [xA 14 (by omega), xA 15 (by omega)]; exact s7 i p hp
      · obtain ⟨o1, o2, o3, o4, o5, o6⟩ := h7
        refine ⟨o1.cg (xI 17 (by decide) (by unfold rgX; omega)) ?_, o2.cg (xI 14 (by decide) (by unfold rgX; omega)) (yI 67 (by decide) (by unfold regI; omega)) (xA 29 (by omega)) (yA2 43 (by omega)), o3.cg (xA 30 (by omega)) (yA2 27 (by omega)), ⟨?_, ?_⟩, ⟨0, by omega, ?_, ?_, by rw [yA2 1 (by omega), xA 6 (by omega)]; exact l4, fun i hi => by omega⟩, o6.cg (xA 4 (by omega))⟩
        · rw [eY]; exact fY.2.2.1 55 (by decide)
        · rw [eX, gI_ne (by decide), gI_at, eY, gI_ne (by decide), gI_at, f3, f4]
        · rw [eX, gI_at, eY, gI_at, f5]
        · rw [eX, gI_ne (by decide), gI_ne (by decide), gI_at]; rfl
        · rw [eY, gI_ne (by decide), gI_ne (by decide), y1]; rfl
    refine Cal.ref (k := 1) (r := -1) hR (by decide) ?_ ?_
    · unfold fX11_town
      rw [h1.2.2.1]
      refine eq_b k1 (eq_n (eq_n (eq_e (v' := X2) (by rw [eX]; rfl) (eq_t rfl (eq_b (xref (k := 1) (by decide)) rfl)))))
    · rw [k2]
      unfold fX12_town_196
      refine eq_n (eq_e (v' := Y2) (by rw [eY]; rfl) (eq_f ?_ (eq_b (yref (k := 1) (by decide)) rfl)))
      rw [eY, gI_ne (by decide), gI_ne (by decide), f4]
      exact nI_ge (a := 0) (by omega) (by omega)
end
section
/-! WHAT WAS SEEN, ON BOTH SIDES -/
theorem byt_v {t : Nat → Int32} {L i : Nat} (h : Byt t L) (hi : i < L) : ∃ v, v ≤ 255 ∧ t i = nI v := by
  obtain ⟨j, _, h2, e⟩ := in_nI (a := 0) (b := 255) (by decide) (h i hi) (by decide)
  exact ⟨j, h2, e⟩
def gdS (t : Nat → Int32) (nc k : Nat) : Prop := ∃ a c h, a ≤ 40 ∧ c < nc ∧ h ≤ 23 ∧ t (3 * k) = nI a ∧ t (3 * k + 1) = nI c ∧ t (3 * k + 2) = nI h
theorem n3 (k : Nat) : (3 : Int32) * nI k = nI (3 * k) := by rw [show (3 : Int32) = nI 3 from rfl, nI_mul]
abbrev xsL (n0 q : Nat) : Nat → Int32 → Int32 → Mem → Option (Int32 × Mem) := loopN (bX5_read_33 n0 q) (fun _ _ _ => none)
abbrev ysL (n0 : Nat) : Nat → Int32 → Int32 → Int32 → Mem → Option (Int32 × Mem) := loopN (bX12_see_34 n0) (fun _ _ _ _ => none)
theorem seeL {n0 q b rows nc : Nat} {MX MY : Mem} (h5 : nc ≤ 5) (hb : b ≤ 1) (x641 : gI MX 641 = nI (3 * rows)) (h16 : rows ≤ 16) (hby : Byt (gA MX 6) (3 * rows)) (hT : gA MY 1 = gA MX 6) (xq : gI MX (128 * q + 5) = nI nc) (h13 : gI MY 13 = nI b) (y5 : gA MY 5 b = nI nc) : ∀ w k, k ≤ rows → rows + 1 < w + k →
    (xsL n0 q w (nI rows) (nI k) MX = fX5_read_107 n0 q (nI rows) 0 MX ∧ ysL n0 w (nI (3 * rows)) 1 (nI (3 * k)) MY = fX12_see_94 n0 (nI (3 * rows)) 1 MY ∧ ∀ j, k ≤ j → j < rows → gdS (gA MX 6) nc j) ∨
    (xsL n0 q w (nI rows) (nI k) MX = some (0, MX) ∧ ysL n0 w (nI (3 * rows)) 1 (nI (3 * k)) MY = fX12_see_94 n0 (nI (3 * rows)) 0 MY)
  | 0, k, hk, hw => by omega
  | w + 1, k, hk, hw => by
    show (bX5_read_33 n0 q (xsL n0 q w) (nI rows) (nI k) MX = _ ∧ bX12_see_34 n0 (ysL n0 w) (nI (3 * rows)) 1 (nI (3 * k)) MY = _ ∧ _) ∨ (bX5_read_33 n0 q (xsL n0 q w) (nI rows) (nI k) MX = _ ∧ bX12_see_34 n0 (ysL n0 w) (nI (3 * rows)) 1 (nI (3 * k)) MY = _)
    by_cases g : k = rows
    · refine Or.inl ⟨?_, ?_, fun j h1 h2 => by omega⟩
      · unfold bX5_read_33
        exact eq_t (by rw [g]; exact Int32.le_refl _) rfl
      · unfold bX12_see_34
        exact eq_t (by rw [g]; exact Int32.le_refl _) rfl
    · have hx : ¬ nI rows ≤ nI k := nI_ge (by omega) (by omega)
      have hy : ¬ nI (3 * rows) ≤ nI (3 * k) := nI_ge (by omega) (by omega)
      obtain ⟨v0, p0, e0⟩ := byt_v hby (i := 3 * k) (by omega)
      obtain ⟨v1, p1, e1⟩ := byt_v hby (i := 3 * k + 1) (by omega)
      obtain ⟨v2, p2, e2⟩ := byt_v hby (i := 3 * k + 2) (by omega)
      have k0 : (nI (3 * k)).toNatClampNeg = 3 * k := nI_clamp (by omega)
      have k1 : (nI (3 * k + 1)).toNatClampNeg = 3 * k + 1 := nI_clamp (by omega)
      have k2 : (nI (3 * k + 2)).toNatClampNeg = 3 * k + 2 := nI_clamp (by omega)
      have i1 : nI (3 * k) + 1 = nI (3 * k + 1) := nI_add _ 1
      have i2 : nI (3 * k) + 2 = nI (3 * k + 2) := nI_add _ 2
      have i3 : nI (3 * k) + 3 = nI (3 * (k + 1)) := by rw [show nI (3 * k) + 3 = nI (3 * k + 3) from nI_add _ 3, Nat.mul_add]
      have c1 : nI k + 1 = nI (k + 1) := nI_add k 1
      have a0 : fX7_at n0 (nI (3 * k)) MX = some (nI v0, MX) := by rw [xat x641 (by omega) (by omega), e0]
      have a1 : fX7_at n0 (nI (3 * k + 1)) MX = some (nI v1, MX) := by rw [xat x641 (by omega) (by omega), e1]
      have a2 : fX7_at n0 (nI (3 * k + 2)) MX = some (nI v2, MX) := by rw [xat x641 (by omega) (by omega), e2]
      have badY : fX12_see_86 n0 (ysL n0 w) (nI (3 * rows)) (nI (3 * k)) MY = fX12_see_94 n0 (nI (3 * rows)) 0 MY := by
        unfold fX12_see_86 fX12_see_87
        rw [i3]
        obtain ⟨w', rfl⟩ : ∃ w', w = w' + 1 := ⟨w - 1, by omega⟩
        show bX12_see_34 n0 (ysL n0 w') (nI (3 * rows)) 0 (nI (3 * (k + 1))) MY = _
        unfold bX12_see_34
        by_cases z : nI (3 * rows) ≤ nI (3 * (k + 1))
        · exact eq_t z rfl
        · exact eq_f z (eq_t rfl rfl)
      have badX : fX5_read_73 n0 q (xsL n0 q w) (nI rows) (nI k) MX = some (0, MX) := by
        unfold fX5_read_73 fX5_read_74
        exact eq_t rfl rfl
      have y0 : gA MY 1 (nI (3 * k)).toNatClampNeg = nI v0 := by rw [k0, hT, e0]
      have y1 : gA MY 1 (nI (3 * k) + 1).toNatClampNeg = nI v1 := by rw [i1, k1, hT, e1]
      have y2 : gA MY 1 (nI (3 * k) + 2).toNatClampNeg = nI v2 := by rw [i2, k2, hT, e2]
      have o0 : ¬ oob (nI (3 * k)) 1800 := nI_in (by omega) (by decide)
      have o1 : ¬ oob (nI (3 * k) + 1) 1800 := by rw [i1]; exact nI_in (by omega) (by decide)
      have o2 : ¬ oob (nI (3 * k) + 2) 1800 := by rw [i2]; exact nI_in (by omega) (by decide)
      by_cases b0 : v0 ≤ 40
      · have q0 : ¬ (40 : Int32) < nI v0 := fun z => by have := (nI_ltI (a := 40) (by decide) (by omega)).mp z; omega
        by_cases b1 : v1 < nc
        · by_cases b2 : v2 ≤ 23
          · have q2 : ¬ (23 : Int32) < nI v2 := fun z => by have := (nI_ltI (a := 23) (by decide) (by omega)).mp z; omega
            have sx : bX5_read_33 n0 q (xsL n0 q w) (nI rows) (nI k) MX = xsL n0 q w (nI rows) (nI (k + 1)) MX := by
              unfold bX5_read_33
              simp only [n3, i1]
              refine eq_f hx (eq_b a0 (eq_f q0 (eq_b a1 (eq_b (xCot xq (by omega) b1) (eq_f (show ¬ (1 : Int32) = 0 by decide) ?_)))))
              unfold fX5_read_74
              simp only [n3, i2]
              refine eq_f (by decide) (eq_b a2 (eq_t (nI_le (b := 23) b2 (by decide)) ?_))
              rw [c1]
            have sy : bX12_see_34 n0 (ysL n0 w) (nI (3 * rows)) 1 (nI (3 * k)) MY = ysL n0 w (nI (3 * rows)) 1 (nI (3 * (k + 1))) MY := by
              unfold bX12_see_34
              refine eq_f hy (eq_f (by decide) (eq_f o0 (eq_f (by rw [y0]; exact q0) (eq_f o1 (eq_b (by rw [y1]; exact yCot h13 hb y5 (by omega) b1) (eq_f (show ¬ (1 : Int32) = 0 by decide) (eq_f o2 (eq_f (by rw [y2]; exact q2) ?_))))))))
              unfold fX12_see_87
              rw [i3]
            rw [sx, sy]
            rcases seeL h5 hb x641 h16 hby hT xq h13 y5 w (k + 1) (by omega) (by omega) with ⟨r1, r2, r3⟩ | ⟨r1, r2⟩
            · refine Or.inl ⟨r1, r2, fun j h1 h2 => ?_⟩
              by_cases z : j = k
              · rw [z]
                exact ⟨v0, v1, v2, b0, b1, b2, e0, e1, e2⟩
              · exact r3 j (by omega) h2
            · exact Or.inr ⟨r1, r2⟩
          · refine Or.inr ⟨?_, ?_⟩
            · unfold bX5_read_33
              simp only [n3, i1]
              refine eq_f hx (eq_b a0 (eq_f q0 (eq_b a1 (eq_b (xCot xq (by omega) b1) (eq_f (show ¬ (1 : Int32) = 0 by decide) ?_)))))
              unfold fX5_read_74
              simp only [n3, i2]
              exact eq_f (by decide) (eq_b a2 (eq_f (nI_ge (a := 23) (by omega) (by omega)) rfl))
            · unfold bX12_see_34
              exact eq_f hy (eq_f (by decide) (eq_f o0 (eq_f (by rw [y0]; exact q0) (eq_f o1 (eq_b (by rw [y1]; exact yCot h13 hb y5 (by omega) b1) (eq_f (show ¬ (1 : Int32) = 0 by decide) (eq_f o2 (eq_t (by rw [y2]; exact nI_lt (a := 23) (by omega) (by omega)) badY))))))))
        · have zz : nI v1 < 0 ∨ nI nc ≤ nI v1 := Or.inr (nI_le (by omega) (by omega))
          refine Or.inr ⟨?_, ?_⟩
          · unfold bX5_read_33
            simp only [n3, i1]
            exact eq_f hx (eq_b a0 (eq_f q0 (eq_b a1 (eq_b (xCof xq zz) (eq_t rfl badX)))))
          · unfold bX12_see_34
            exact eq_f hy (eq_f (by decide) (eq_f o0 (eq_f (by rw [y0]; exact q0) (eq_f o1 (eq_b (by rw [y1]; exact yCof h13 hb y5 zz) (eq_t rfl badY))))))
      · have q0 : (40 : Int32) < nI v0 := nI_lt (a := 40) (by omega) (by omega)
        refine Or.inr ⟨?_, ?_⟩
        · unfold bX5_read_33
          simp only [n3]
          exact eq_f hx (eq_b a0 (eq_t q0 badX))
        · unfold bX12_see_34
          exact eq_f hy (eq_f (by decide) (eq_f o0 (eq_t (by rw [y0]; exact q0) badY)))
abbrev xcL (n0 q : Nat) : Nat → Int32 → Int32 → Mem → Option (Int32 × Mem) := loopN (bX5_read_107 n0 q) (fun _ _ _ => none)
theorem xsee {n0 q rows : Nat} (h16 : rows ≤ 16) : ∀ w k M, k ≤ rows → rows < w + k → gI M 641 = nI (3 * rows) → ∃ M', xcL n0 q w (nI rows) (nI k) M = some (1, sI M' 2688 (nI rows)) ∧ (∀ j, k ≤ j → j < rows → gA M' 22 j = gA M 6 (3 * j) ∧ gA M' 23 j = gA M 6 (3 * j + 1) ∧ gA M' 24 j = gA M 6 (3 * j + 2)) ∧ gR M' = gR M ∧ gL M' = gL M ∧ gB M' = gB M ∧ gI M' = gI M ∧ ∀ a i, ¬ (22 ≤ a ∧ a ≤ 24 ∧ k ≤ i) → gA M' a i = gA M a i
  | 0, k, M, hk, hw, _ => by omega
  | w + 1, k, M, hk, hw, hL => by
    show ∃ M', bX5_read_107 n0 q (xcL n0 q w) (nI rows) (nI k) M = _ ∧ _
    unfold bX5_read_107
    by_cases g : k = rows
    · exact ⟨M, eq_t (by rw [g]; exact Int32.le_refl _) rfl, fun j h1 h2 => by omega, rfl, rfl, rfl, rfl, fun _ _ _ => rfl⟩
    · have ck : (nI k).toNatClampNeg = k := nI_clamp (by omega)
      have ok : ¬ oob (nI k) 16 := nI_in (by omega) (by decide)
      have i1 : nI (3 * k) + 1 = nI (3 * k + 1) := nI_add _ 1
      have i2 : nI (3 * k) + 2 = nI (3 * k + 2) := nI_add _ 2
      have hM : ∃ N, N = sA (sA (sA M 22 k (gA M 6 (3 * k))) 23 k (gA M 6 (3 * k + 1))) 24 k (gA M 6 (3 * k + 2)) := ⟨_, rfl⟩
      obtain ⟨N, eN⟩ := hM
      have nA : ∀ a i, ¬ (22 ≤ a ∧ a ≤ 24 ∧ i = k) → gA N a i = gA M a i := fun a i z => by
        rw [eN, gA_sA]
        by_cases z4 : a = 24
        · rw [if_pos z4, if_neg (by omega), gA_sA_ne (by decide), gA_sA_ne (by decide), z4]
        · rw [if_neg z4, gA_sA]
          by_cases z3 : a = 23
          · rw [if_pos z3, if_neg (by omega), gA_sA_ne (by decide), z3]
          · rw [if_neg z3, gA_sA]
            by_cases z2 : a = 22
            · rw [if_pos z2, if_neg (by omega), z2]
            · rw [if_neg z2]
      obtain ⟨M', r1, r2, r3, r4, r5, r6, r7⟩ := xsee (n0 := n0) (q := q) h16 w (k + 1) N (by omega) (by omega) (by rw [eN]; exact hL)
      refine ⟨M', ?_, fun j h1 h2 => ?_, r3.trans (by rw [eN]; rfl), r4.trans (by rw [eN]; rfl), r5.trans (by rw [eN]; rfl), r6.trans (by rw [eN]; rfl), fun a i z => (r7 a i (by omega)).trans (nA a i (by omega))⟩
      · simp only [n3, i1, i2]
        refine eq_f (nI_ge (by omega) (by omega)) (eq_b (xat hL (by omega) (by omega)) (eq_f ok (eq_e (v' := sA M 22 k (gA M 6 (3 * k))) (by rw [ck]) (eq_b (xat (M := sA M 22 k (gA M 6 (3 * k))) (L := 3 * rows) hL (by omega) (by omega)) (eq_f ok (eq_e (v' := sA (sA M 22 k (gA M 6 (3 * k))) 23 k (gA M 6 (3 * k + 1))) ?_ (eq_b (xat (M := sA (sA M 22 k (gA M 6 (3 * k))) 23 k (gA M 6 (3 * k + 1))) (L := 3 * rows) hL (by omega) (by omega)) (eq_f ok (eq_e (v' := N) ?_ ?_)))))))))
        · rw [ck, gA_sA_ne (by decide)]
        · rw [ck, gA_sA_ne (by decide), gA_sA_ne (by decide), eN]
        · rw [show nI k + 1 = nI (k + 1) from nI_add k 1]
          exact r1
      · by_cases z : j = k
        · rw [z, r7 22 k (by omega), r7 23 k (by omega), r7 24 k (by omega), eN]
          refine ⟨?_, ?_, ?_⟩
          · rw [gA_sA_ne (by decide), gA_sA_ne (by decide), gA_sA, if_pos rfl, if_pos rfl]
          · rw [gA_sA_ne (by decide), gA_sA, if_pos rfl, if_pos rfl]
          · rw [gA_sA, if_pos rfl, if_pos rfl]
        · obtain ⟨p1, p2, p3⟩ := r2 j (by omega) h2
          rw [p1, p2, p3, nA 6 _ (by omega), nA 6 _ (by omega), nA 6 _ (by omega)]
          exact ⟨rfl, rfl, rfl⟩
abbrev ycL (n0 : Nat) : Nat → Int32 → Mem → Option (Int32 × Mem) := loopN (bX12_see_113 n0) (fun _ _ => none)
theorem ysee {n0 rows : Nat} (h16 : rows ≤ 16) : ∀ w k M, k ≤ rows → rows < w + k → gI M 61 = nI rows → ∃ M', ycL n0 w (nI k) M = some (nI rows, M') ∧ (∀ j, k ≤ j → j < rows → gA M' 39 j = gA M 1 (3 * j) ∧ gA M' 40 j = gA M 1 (3 * j + 1) ∧ gA M' 41 j = gA M 1 (3 * j + 2)) ∧ gR M' = gR M ∧ gL M' = gL M ∧ gB M' = gB M ∧ gI M' = gI M ∧ ∀ a i, ¬ (39 ≤ a ∧ a ≤ 41 ∧ k ≤ i) → gA M' a i = gA M a i
  | 0, k, M, hk, hw, _ => by omega
  | w + 1, k, M, hk, hw, hL => by
    show ∃ M', bX12_see_113 n0 (ycL n0 w) (nI k) M = _ ∧ _
    unfold bX12_see_113
    by_cases g : k = rows
    · exact ⟨M, eq_t (by rw [hL, g]; exact Int32.le_refl _) (by rw [hL]), fun j h1 h2 => by omega, rfl, rfl, rfl, rfl, fun _ _ _ => rfl⟩
    · have ck : (nI k).toNatClampNeg = k := nI_clamp (by omega)
      have ok : ¬ oob (nI k) 16 := nI_in (by omega) (by decide)
      have i1 : nI (3 * k) + 1 = nI (3 * k + 1) := nI_add _ 1
      have i2 : nI (3 * k) + 2 = nI (3 * k + 2) := nI_add _ 2
      have k0 : (nI (3 * k)).toNatClampNeg = 3 * k := nI_clamp (by omega)
      have k1 : (nI (3 * k + 1)).toNatClampNeg = 3 * k + 1 := nI_clamp (by omega)
      have k2 : (nI (3 * k + 2)).toNatClampNeg = 3 * k + 2 := nI_clamp (by omega)
      have hM : ∃ N, N = sA (sA (sA M 39 k (gA M 1 (3 * k))) 40 k (gA M 1 (3 * k + 1))) 41 k (gA M 1 (3 * k + 2)) := ⟨_, rfl⟩
      obtain ⟨N, eN⟩ := hM
      have nA : ∀ a i, ¬ (39 ≤ a ∧ a ≤ 41 ∧ i = k) → gA N a i = gA M a i := fun a i z => by
        rw [eN, gA_sA]
        by_cases z4 : a = 41
        · rw [if_pos z4, if_neg (by omega), gA_sA_ne (by decide), gA_sA_ne (by decide), z4]
        · rw [if_neg z4, gA_sA]
          by_cases z3 : a = 40
          · rw [if_pos z3, if_neg (by omega), gA_sA_ne (by decide), z3]
          · rw [if_neg z3, gA_sA]
            by_cases z2 : a = 39
            · rw [if_pos z2, if_neg (by omega), z2]
            · rw [if_neg z2]
      obtain ⟨M', r1, r2, r3, r4, r5, r6, r7⟩ := ysee (n0 := n0) h16 w (k + 1) N (by omega) (by omega) (by rw [eN]; exact hL)
      refine ⟨M', ?_, fun j h1 h2 => ?_, r3.trans (by rw [eN]; rfl), r4.trans (by rw [eN]; rfl), r5.trans (by rw [eN]; rfl), r6.trans (by rw [eN]; rfl), fun a i z => (r7 a i (by omega)).trans (nA a i (by omega))⟩
      · simp only [n3, i1, i2, k0, k1, k2, ck]
        refine eq_f (by rw [hL]; exact nI_ge (by omega) (by omega)) (eq_f (nI_in (by omega) (by decide)) (eq_f ok (eq_n (eq_f (nI_in (by omega) (by decide)) (eq_f ok (eq_n (eq_f (nI_in (by omega) (by decide)) (eq_f ok (eq_e (v' := N) ?_ ?_)))))))))
        · rw [eN, gA_sA_ne (by decide), gA_sA_ne (by decide), gA_sA_ne (by decide)]
        · rw [show nI k + 1 = nI (k + 1) from nI_add k 1]
          exact r1
      · by_cases z : j = k
        · rw [z, r7 39 k (by omega), r7 40 k (by omega), r7 41 k (by omega), eN]
          refine ⟨?_, ?_, ?_⟩
          · rw [gA_sA_ne (by decide), gA_sA_ne (by decide), gA_sA, if_pos rfl, if_pos rfl]
          · rw [gA_sA_ne (by decide), gA_sA, if_pos rfl, if_pos rfl]
          · rw [gA_sA, if_pos rfl, if_pos rfl]
        · obtain ⟨p1, p2, p3⟩ := r2 j (by omega) h2
          rw [p1, p2, p3, nA 1 _ (by omega), nA 1 _ (by omega), nA 1 _ (by omega)]
          exact ⟨rfl, rfl, rfl⟩
/-- the tape goes, nothing else -/
theorem R.gone {n0 : Nat} {MX MY : Mem} (h : R n0 MX MY) : R n0 (sI MX 641 0) (sI MY 1 0) := by
  obtain ⟨q, b, T, nr, C, m, pm, s, h⟩ := h
  have ho := h.2.2.2.2.2.2
  obtain ⟨L, l1, l2, l3, l4, l5⟩ := ho.2.2.2.2.1
  exact ⟨q, b, T, nr, C, m, pm, s, h.ou ⟨rfl, fun k z => gI_ne (by omega), fun _ _ => rfl⟩ ⟨fun k z => gI_ne (by omega), fun _ _ => rfl, rfl⟩ ⟨ho.1, ho.2.1, ho.2.2.1, ho.2.2.2.1, ⟨0, by omega, gI_at, gI_at, l4, fun i hi => by omega⟩, ho.2.2.2.2.2⟩⟩
theorem cSee {n0 : Nat} {MX MY : Mem} (hn : 1700 ≤ n0) (h : R n0 MX MY) : Cal n0 (fX11_see n0 MX) (fX12_see n0 MY) := by
  have hg := h.gone
  obtain ⟨q, b, T, nr, C, m, pm, s, h⟩ := h
  obtain ⟨h1, h2, h3, h4, h5, h6, h7⟩ := id h
  have hok := h1.2.2.2.1.2.1
  have hl := h2.2.2.l
  have hb := h1.2.2.2.2.1.2.2.1
  have h13 := h1.2.2.2.2.1.2.2.2.1
  have hq := h1.1
  obtain ⟨L, l1, l2, l3, l4, l5⟩ := h7.2.2.2.2.1
  -- refused on both sides
  have bad : ∀ g, fX5_read n0 q MX = some (0, MX) → g = fX12_see_94 n0 (nI L) 0 (sI MY 1 0) → Cal n0 (fX11_see n0 MX) g := fun g e1 e2 => by
    refine Cal.ref (k := 5) (r := -1) hg (by decide) ?_ (e2.trans ?_)
    · unfold fX11_see
      rw [h1.2.1]
      exact eq_b e1 (eq_n (eq_t rfl (eq_b (xref (k := 5) (by decide)) rfl)))
    · unfold fX12_see_94
      exact eq_t rfl (eq_b (yref (k := 5) (by decide)) rfl)
  have s30 : ∀ M : Mem, fX12_see_30 n0 (nI L) M = fX12_see_94 n0 (nI L) 0 M := fun M => by
    unfold fX12_see_30 fX12_see_31 fX12_see_34
    obtain ⟨w, rfl⟩ : ∃ w, n0 = w + 1 := ⟨n0 - 1, by omega⟩
    show bX12_see_34 (w + 1) (loopN (bX12_see_34 (w + 1)) (fun _ _ _ _ => none) w) (nI L) 0 0 M = _
    unfold bX12_see_34
    by_cases z : nI L ≤ 0
    · exact eq_t z rfl
    · exact eq_f z (eq_t rfl rfl)
  have d3 : gI MX 641 / 3 = nI (L / 3) := by rw [l2, show (3 : Int32) = nI 3 from rfl, nI_div (by omega) (by decide)]
  by_cases g0 : L = 0
  · refine bad _ ?_ ?_
    · unfold fX5_read
      exact eq_f (by decide) (eq_e d3 (eq_t (by rw [g0]; decide) rfl))
    · unfold fX12_see
      refine eq_e l3 (eq_n (eq_t (by rw [g0]; decide) (s30 _)))
  · have lp : ¬ nI L ≤ 0 := nI_ge (a := 0) (by omega) (by omega)
    by_cases g1 : L % 3 = 0
    · have e3 : rem32 (nI L) 3 = 0 := by rw [show (3 : Int32) = nI 3 from rfl, rem_nI (by omega) (by decide), g1]; rfl
      by_cases g2 : 48 < L
      · refine bad _ ?_ ?_
        · unfold fX5_read
          exact eq_f (by decide) (eq_e d3 (eq_f (fun z => by have := (nI_ltI (b := 1) (by omega) (by decide)).mp z; omega) (eq_t (nI_lt (a := 16) (by omega) (by omega)) rfl)))
        · unfold fX12_see
          exact eq_e l3 (eq_n (eq_f lp (eq_f (by decide) (eq_t e3 (eq_t (nI_lt (a := 48) g2 (by omega)) (s30 _))))))
      · obtain ⟨rows, rfl⟩ : ∃ rows, L = 3 * rows := ⟨L / 3, by omega⟩
        have dr : 3 * rows / 3 = rows := by omega
        have xr : fX5_read n0 q MX = xsL n0 q n0 (nI rows) (nI 0) MX := by
          unfold fX5_read
          refine eq_f (by decide) (eq_e (v' := nI rows) (by rw [d3, dr]) (eq_f (fun z => by have := (nI_ltI (b := 1) (by omega) (by decide)).mp z; omega) (eq_f (fun z => by have := (nI_ltI (a := 16) (by decide) (by omega)).mp z; omega) (eq_t (by rw [l2, n3]) rfl))))
        have yr : fX12_see n0 MY = ysL n0 n0 (nI (3 * rows)) 1 (nI (3 * 0)) (sI MY 1 0) := by
          unfold fX12_see
          exact eq_e l3 (eq_n (eq_f lp (eq_f (by decide) (eq_t e3 (eq_f (fun z => by have := (nI_ltI (a := 48) (by decide) (by omega)).mp z; omega) rfl)))))
        rcases seeL (n0 := n0) (q := q) (b := b) (rows := rows) (nc := T.nc) (MX := MX) (MY := sI MY 1 0) hok.2.1 hb l2 (by omega) l5 l4 h1.2.2.2.1.2.2.1 h13 h1.2.2.2.2.1.2.2.2.2.2.1 n0 0 (by omega) (by omega) with ⟨r1, r2, r3⟩ | ⟨r1, r2⟩
        · obtain ⟨X1, a1, a2, a3, a4, a5, a6, a7⟩ := xsee (n0 := n0) (q := q) (rows := rows) (by omega) n0 0 MX (by omega) (by omega) l2
          obtain ⟨Y1, b1, b2, b3, b4, b5, b6, b7⟩ := ysee (n0 := n0) (rows := rows) (by omega) n0 0 (sI (sI MY 1 0) 61 (nI rows)) (by omega) (by omega) gI_at
          have xI : ∀ k, ¬ (k = 641 ∨ k = 2688) → gI (sI (sI X1 2688 (nI rows)) 641 0) k = gI MX k := fun k z => by rw [gI_ne (by omega), gI_ne (by omega), a6]
          have xA : ∀ a, ¬ (22 ≤ a ∧ a ≤ 24) → gA X1 a = gA MX a := fun a z => by
            funext i
            exact a7 a i (by omega)
          have yI : ∀ k, ¬ (k = 1 ∨ k = 61) → gI Y1 k = gI MY k := fun k z => by rw [b6, gI_ne (by omega), gI_ne (by omega)]
          have yA : ∀ a, ¬ (39 ≤ a ∧ a ≤ 41) → gA Y1 a = gA MY a := fun a z => by
            funext i
            exact b7 a i (by omega)
          refine ⟨nI rows, sI (sI X1 2688 (nI rows)) 641 0, Y1, ?_, ?_, q, b, T, nr, C, m, pm, s, h1.cgs a3 (fun k z => xI k (by omega)) (fun a z1 z2 => xA a (by omega)) (yI 13 (by decide)) (fun a z1 z2 => yA a (by omega)) (fun a _ _ => by rw [b5]; rfl), h2, h3.cgs a3 (xI 1281 (by decide)) (xI 1285 (by decide)) (fun a z1 z2 => xA a (by omega)), h4.cg hok.2.1 (by omega) (fun a i z => by rw [yA a (by unfold lP tP dP at z; omega)]), h5.cg hok ⟨[], (List.append_nil _).symm⟩ (fun p z1 z2 => xA p (by omega)) (xI 2049 (by decide)) (xI 2050 (by decide)) (yI 53 (by decide)) (yI 54 (by decide)) (fun a i z => by rw [yA a (by unfold uP at z; omega)]), ⟨rows, by omega, by rw [gI_ne (by decide), gI_at], by rw [b6, gI_at], fun k hk => ?_⟩, ?_⟩
          · unfold fX11_see
            rw [h1.2.1]
            refine eq_b (z := (1, sI X1 2688 (nI rows))) (xr.trans (r1.trans a1)) (eq_n (eq_f (show ¬ (1 : Int32) = 0 by decide) ?_))
            rw [gI_ne (by decide), gI_at]
          · rw [yr, r2]
            unfold fX12_see_94
            refine eq_f (by decide) (eq_f (by decide) (eq_e (v' := sI (sI MY 1 0) 61 (nI rows)) ?_ b1))
            rw [show (3 : Int32) = nI 3 from rfl, nI_div (by omega) (by decide), dr]
          · obtain ⟨a, c, hh, u1, u2, u3, u4, u5, u6⟩ := r3 k (by omega) hk
            obtain ⟨w1, w2, w3⟩ := a2 k (by omega) hk
            obtain ⟨w4, w5, w6⟩ := b2 k (by omega) hk
            have ey : gA (sI (sI MY 1 0) 61 (nI rows)) 1 = gA MX 6 := l4
            rw [ey] at w4 w5 w6
            exact ⟨a, c, hh, u1, u2, u3, w1.trans u4, w4.trans u4, w2.trans u5, w5.trans u5, w3.trans u6, w6.trans u6⟩
          · obtain ⟨o1, o2, o3, o4, o5, o6⟩ := h7
            exact ⟨o1.cg (xI 17 (by decide)) (by rw [b4]; rfl), o2.cg (xI 14 (by decide)) (yI 67 (by decide)) (xA 29 (by omega)) (yA 43 (by omega)), o3.cg (xA 30 (by omega)) (yA 27 (by omega)), o4.cg (xI 15 (by decide)) (xI 16 (by decide)) (yI 10 (by decide)) (yI 11 (by decide)), ⟨0, by omega, gI_at, by rw [b6, gI_ne (by decide), gI_at]; rfl, by rw [yA 1 (by omega)]; exact l4.trans (xA 6 (by omega)).symm, fun i hi => by omega⟩, o6.cg (xA 4 (by omega))⟩
        · exact bad _ (xr.trans r1) (yr.trans r2)
    · refine bad _ ?_ ?_
      · unfold fX5_read
        refine eq_f (by decide) (eq_e d3 ?_)
        by_cases z1 : nI (L / 3) < 1
        · exact eq_t z1 rfl
        · by_cases z2 : (16 : Int32) < nI (L / 3)
          · exact eq_f z1 (eq_t z2 rfl)
          · refine eq_f z1 (eq_f z2 (eq_f ?_ rfl))
            rw [l2, n3]
            exact fun z => by have := (nI_eq (by omega) (by omega)).mp z; omega
      · unfold fX12_see
        refine eq_e l3 (eq_n (eq_f lp (eq_f (by decide) (eq_f ?_ (s30 _)))))
        rw [show (3 : Int32) = nI 3 from rfl, rem_nI (by omega) (by decide)]
        exact nI_ne0 (by omega) (by omega)
end
