/-! MORE PLAIN CALLS: feed, has -/
theorem nI_div {a b : Nat} (ha : a < 2 ^ 31) (hb : b < 2 ^ 31) : nI a / nI b = nI (a / b) := by
  rw [nz, nz, nz, Int.ofNat_tdiv]
  exact (Int32.ofInt_tdiv (by show (-2147483648 : Int) ≤ a; omega) (by show (a : Int) ≤ 2147483647; omega) (by show (-2147483648 : Int) ≤ b; omega) (by show (b : Int) ≤ 2147483647; omega)).symm
theorem rem_nI {a b : Nat} (ha : a < 2 ^ 31) (hb : b < 2 ^ 31) : rem32 (nI a) (nI b) = nI (a % b) := by
  unfold rem32
  rw [nI_div ha hb, nI_mul, nI_subN (Nat.div_mul_le_self a b)]
  congr 1
  have := Nat.mod_add_div a b
  rw [Nat.mul_comm] at this
  omega
def TpR (L : Nat) (MX MY : Mem) : Prop := L ≤ 1600 ∧ gI MX 641 = nI L ∧ gI MY 1 = nI L ∧ gA MY 1 = gA MX 6 ∧ Byt (gA MX 6) L
def XTp (M M' : Mem) : Prop := gR M' = gR M ∧ (∀ k, ¬ k = 641 → gI M' k = gI M k) ∧ ∀ a, ¬ a = 6 → gA M' a = gA M a
def YTp (M M' : Mem) : Prop := gL M' = gL M ∧ (∀ k, ¬ k = 1 → gI M' k = gI M k) ∧ (∀ a, ¬ a = 1 → gA M' a = gA M a) ∧ gB M' = gB M
theorem XTp.tr {M M' M2 : Mem} (h : XTp M M') (g : XTp M' M2) : XTp M M2 := ⟨g.1.trans h.1, fun k z => (g.2.1 k z).trans (h.2.1 k z), fun k z => (g.2.2 k z).trans (h.2.2 k z)⟩
theorem YTp.tr {M M' M2 : Mem} (h : YTp M M') (g : YTp M' M2) : YTp M M2 := ⟨g.1.trans h.1, fun k z => (g.2.1 k z).trans (h.2.1 k z), fun k z => (g.2.2.1 k z).trans (h.2.2.1 k z), g.2.2.2.trans h.2.2.2⟩
abbrev xaL (n0 : Nat) : Nat → Int32 → Int32 → Mem → Option Mem := loopN (bX7_addNumber_3 n0) (fun _ _ _ => none)
abbrev ypL (n0 : Nat) : Nat → Int32 → Int32 → Mem → Option Mem := loopN (bX12_put_3 n0) (fun _ _ _ => none)
theorem put1 {n0 L : Nat} {x1 x2 : Int32} {MX MY : Mem} (h : TpR L MX MY) (hL : L < 1600) (h2 : ¬ x2 < 0) : ∃ MX' MY', (∀ w, xaL n0 (w + 1) x1 x2 MX = xaL n0 w x1 (x2 + (-8)) MX') ∧ (∀ w, ypL n0 (w + 1) x1 x2 MY = ypL n0 w x1 (x2 + (-8)) MY') ∧ TpR (L + 1) MX' MY' ∧ XTp MX MX' ∧ YTp MY MY' := by
  obtain ⟨l1, l2, l3, l4, l5⟩ := h
  have cL : (nI L).toNatClampNeg = L := nI_clamp (by omega)
  have L1 : nI L + 1 = nI (L + 1) := nI_add L 1
  refine ⟨sI (sA MX 6 L ((x1 >>> (x2 &&& 31)) &&& 255)) 641 (nI (L + 1)), sI (sA MY 1 L ((x1 >>> (x2 &&& 31)) &&& 255)) 1 (nI (L + 1)), fun w => ?_, fun w => ?_, ⟨by omega, gI_at, gI_at, ?_, fun i hi => ?_⟩, ⟨rfl, fun k z => gI_ne z, fun a z => gA_sA_ne z⟩, ⟨rfl, fun k z => gI_ne z, fun a z => gA_sA_ne z, rfl⟩⟩
  · show bX7_addNumber_3 n0 (xaL n0 w) x1 x2 MX = _
    unfold bX7_addNumber_3
    refine eq_f h2 (eq_f (by rw [l2]; exact nI_ge (b := 1600) hL (by decide)) (eq_f (by rw [l2]; exact nI_in hL (by decide)) ?_))
    unfold fX7_addNumber_43
    simp only [bnd, gI_sA, l2, cL, L1]
  · show bX12_put_3 n0 (ypL n0 w) x1 x2 MY = _
    unfold bX12_put_3
    refine eq_f h2 (eq_f (by rw [l3]; exact nI_in (by omega) (by decide)) ?_)
    simp only [bnd, gI_sA, l3, cL, L1]
  · show gA (sA MY 1 L _) 1 = gA (sA MX 6 L _) 6
    funext i
    rw [gA_sA, if_pos rfl, gA_sA, if_pos rfl, l4]
  · show 0 ≤ gA (sA MX 6 L _) 6 i ∧ gA (sA MX 6 L _) 6 i ≤ 255
    rw [gA_sA, if_pos rfl]
    by_cases g : i = L
    · rw [if_pos g]
      obtain ⟨k, hk, e⟩ := n255 (x1 >>> (x2 &&& 31))
      rw [e]
      exact ⟨nI_le (a := 0) (by omega) (by omega), nI_le (b := 255) (by omega) (by decide)⟩
    · rw [if_neg g]
      exact l5 i (by omega)
theorem num1 {n0 L : Nat} {x : Int32} {MX MY : Mem} (hn : 1700 ≤ n0) (h : TpR L MX MY) (hL : L + 4 ≤ 1600) : ∃ MX' MY', fX7_addNumber n0 x MX = some MX' ∧ fX12_put n0 x MY = some MY' ∧ TpR (L + 4) MX' MY' ∧ XTp MX MX' ∧ YTp MY MY' := by
  obtain ⟨w, rfl⟩ : ∃ w, n0 = w + 5 := ⟨n0 - 5, by omega⟩
  obtain ⟨X1, Y1, a1, a2, a3, a4, a5⟩ := put1 (n0 := w + 5) (x1 := x) (x2 := 24) h (by omega) (by decide)
  obtain ⟨X2, Y2, b1, b2, b3, b4, b5⟩ := put1 (n0 := w + 5) (x1 := x) (x2 := 24 + (-8)) a3 (by omega) (by decide)
  obtain ⟨X3, Y3, c1, c2, c3, c4, c5⟩ := put1 (n0 := w + 5) (x1 := x) (x2 := 24 + (-8) + (-8)) b3 (by omega) (by decide)
  obtain ⟨X4, Y4, d1, d2, d3, d4, d5⟩ := put1 (n0 := w + 5) (x1 := x) (x2 := 24 + (-8) + (-8) + (-8)) c3 (by omega) (by decide)
  refine ⟨X4, Y4, ?_, ?_, d3, a4.tr (b4.tr (c4.tr d4)), a5.tr (b5.tr (c5.tr d5))⟩
  · show xaL (w + 5) (w + 4 + 1) x 24 MX = _
    rw [a1 (w + 4), b1 (w + 3), c1 (w + 2), d1 (w + 1)]
    show bX7_addNumber_3 (w + 5) (xaL (w + 5) w) x _ X4 = _
    unfold bX7_addNumber_3
    exact eq_t (by decide) rfl
  · show ypL (w + 5) (w + 4 + 1) x 24 MY = _
    rw [a2 (w + 4), b2 (w + 3), c2 (w + 2), d2 (w + 1)]
    show bX12_put_3 (w + 5) (ypL (w + 5) w) x _ Y4 = _
    unfold bX12_put_3
    exact eq_t (by decide) rfl
theorem cFeed {n0 : Nat} {x1 x2 x3 x4 x5 : Int32} {MX MY : Mem} (hn : 1700 ≤ n0) (h : R n0 MX MY) : Cal n0 (fX11_feed n0 x1 x2 x3 x4 x5 MX) (fX12_feed n0 x1 x2 x3 x4 x5 MY) := by
  have h0 := h
  obtain ⟨q, b, T, nr, C, m, pm, s, h⟩ := h
  have ho := h.2.2.2.2.2.2
  obtain ⟨L, l⟩ := ho.2.2.2.2.1
  have e20 : nI L + 20 = nI (L + 20) := nI_add L 20
  have l1 := l.1
  unfold fX11_feed fX12_feed
  by_cases g : L + 20 ≤ 1600
  · obtain ⟨X1, Y1, a1, a2, a3, a4, a5⟩ := num1 (x := x1) hn l (by omega)
    obtain ⟨X2, Y2, b1, b2, b3, b4, b5⟩ := num1 (x := x2) hn a3 (by omega)
    obtain ⟨X3, Y3, c1, c2, c3, c4, c5⟩ := num1 (x := x3) hn b3 (by omega)
    obtain ⟨X4, Y4, d1, d2, d3, d4, d5⟩ := num1 (x := x4) hn c3 (by omega)
    obtain ⟨X5, Y5, e1, e2, e3, e4, e5⟩ := num1 (x := x5) hn d3 (by omega)
    have fx := a4.tr (b4.tr (c4.tr (d4.tr e4)))
    have fy := a5.tr (b5.tr (c5.tr (d5.tr e5)))
    have er : fX7_hasRoomFor n0 20 MX = some (1, MX) := by
      unfold fX7_hasRoomFor
      rw [l.2.1, e20]
      exact eq_f (fun z => by have := (nI_ltI (a := 1600) (b := L + 20) (by decide) (by omega)).mp z; omega) rfl
    refine ⟨nI (L + 20), X5, Y5, ?_, ?_, q, b, T, nr, C, m, pm, s, h.ou ⟨fx.1, fun k z => fx.2.1 k (by omega), fun a z => fx.2.2 a (by omega)⟩ ⟨fun k z => fy.2.1 k (by omega), fun a z => fy.2.2.1 a (by omega), fy.2.2.2⟩ ⟨ho.1.cg (fx.2.1 17 (by decide)) (by rw [fy.1]), ho.2.1.cg (fx.2.1 14 (by decide)) (fy.2.1 67 (by decide)) (fx.2.2 29 (by decide)) (fy.2.2.1 43 (by decide)), ho.2.2.1.cg (fx.2.2 30 (by decide)) (fy.2.2.1 27 (by decide)), ho.2.2.2.1.cg (fx.2.1 15 (by decide)) (fx.2.1 16 (by decide)) (fy.2.1 10 (by decide)) (fy.2.1 11 (by decide)), ⟨_, e3⟩, ho.2.2.2.2.2.cg (fx.2.2 4 (by decide))⟩⟩
    · refine eq_b er (eq_f (show ¬ (1 : Int32) = 0 by decide) (eq_b a1 (eq_b b1 (eq_b c1 (eq_b d1 (eq_b e1 ?_))))))
      rw [e3.2.1]
    · refine eq_t (by rw [l.2.2.1, e20]; exact nI_le (b := 1600) g (by decide)) (eq_b a2 (eq_b b2 (eq_b c2 (eq_b d2 (eq_b e2 ?_)))))
      rw [e3.2.2.1]
  · have er : fX7_hasRoomFor n0 20 MX = some (0, MX) := by
      unfold fX7_hasRoomFor
      rw [l.2.1, e20]
      exact eq_t (nI_lt (a := 1600) (by omega) (by omega)) rfl
    exact Cal.ref (k := 0) (r := -1) h0 (by decide) (eq_b er (eq_t rfl (eq_b (xref (k := 0) (by decide)) rfl))) (eq_f (by rw [l.2.2.1, e20]; exact nI_ge (b := L + 20) (a := 1600) (by omega) (by omega)) (eq_b (yref (k := 0) (by decide)) rfl))
-- how many are done
def sm (D : Nat) : Nat → Nat
  | 0 => 0
  | d + 1 => sm D d + D / 2 ^ d % 2
theorem sm_pc : ∀ n, n < 7 → ∀ D, D < 2 ^ n → sm D n = pc D := by decide +kernel
theorem sm_le (D : Nat) : ∀ d, sm D d ≤ d
  | 0 => Nat.le_refl _
  | d + 1 => by
    have := sm_le D d
    show sm D d + D / 2 ^ d % 2 ≤ d + 1
    omega
theorem bt_clr : ∀ D, D < 64 → ¬ D = 0 → nI D &&& (nI D - 1) = nI (D &&& (D - 1)) ∧ (D &&& (D - 1)) < 64 ∧ pc D = pc (D &&& (D - 1)) + 1 := by decide +kernel
theorem ybits {n0 : Nat} {M : Mem} : ∀ w a D, D < 64 → pc D < w → loopN (bX12_bits_4 n0) (fun _ _ _ => none) w (nI a) (nI D) M = some (nI (a + pc D), M)
  | 0, _, _, _, h => by omega
  | w + 1, a, D, hD, h => by
    show bX12_bits_4 n0 (loopN (bX12_bits_4 n0) (fun _ _ _ => none) w) (nI a) (nI D) M = _
    unfold bX12_bits_4
    by_cases g : D = 0
    · rw [g]
      exact eq_t rfl rfl
    · obtain ⟨c1, c2, c3⟩ := bt_clr D hD g
      refine eq_f (nI_ne0 (by omega) (by omega)) (eq_e c1 ?_)
      rw [show nI a + 1 = nI (a + 1) from nI_add a 1, show a + pc D = a + 1 + pc (D &&& (D - 1)) by omega]
      exact ybits (n0 := n0) w (a + 1) (D &&& (D - 1)) c2 (by omega)
theorem xcd {n0 q m : Nat} {T : TP} {pm : Nat → Int32 × Nat} {s : Nat × List (Nat × Nat)} {M : Mem} (hT : XT n0 q T M) (hS : SX q T.nc T.nd m pm s M) : ∀ w d, d ≤ T.nd → T.nd < w + d → loopN (bX6_countDone_4 n0) (fun _ _ _ => none) w (nI (sm s.1 d)) (nI d) M = some (nI (sm s.1 T.nd), M)
  | 0, _, _, h => by omega
  | w + 1, d, hd, h => by
    show bX6_countDone_4 n0 (loopN (bX6_countDone_4 n0) (fun _ _ _ => none) w) _ (nI d) M = _
    have h6 := hT.2.1.2.2.1
    have q12 : gI M (128 * gR M 1280 + 12) = nI T.nd := by rw [hS.2.1]; exact hT.2.2.2.1
    unfold bX6_countDone_4
    by_cases g : d = T.nd
    · rw [g]
      exact eq_t (by rw [q12]; exact Int32.le_refl _) rfl
    · refine eq_f (by rw [q12]; exact nI_ge (by omega) (by omega)) (eq_f (nI_in (by omega) (by decide)) (eq_e (v' := nI (sm s.1 (d + 1))) ?_ ?_))
      · rw [nI_clamp (by omega), hS.2.2.2.2.1 d (by omega), nI_add]
        rfl
      · rw [show nI d + 1 = nI (d + 1) from nI_add d 1]
        exact xcd hT hS w (d + 1) (by omega) (by omega)
def ce (pm : Nat → Int32 × Nat) : Nat → Nat
  | 0 => 0
  | c + 1 => ce pm c + if (pm c).1 = -1 then 1 else 0
theorem xce {n0 q m : Nat} {T : TP} {pm : Nat → Int32 × Nat} {s : Nat × List (Nat × Nat)} {M : Mem} (hT : XT n0 q T M) (hS : SX q T.nc T.nd m pm s M) : ∀ w c, c ≤ T.nc → T.nc < w + c → loopN (bX6_countEmpty_4 n0) (fun _ _ _ => none) w (nI (ce pm c)) (nI c) M = some (nI (ce pm T.nc), M)
  | 0, _, _, h => by omega
  | w + 1, c, hc, h => by
    show bX6_countEmpty_4 n0 (loopN (bX6_countEmpty_4 n0) (fun _ _ _ => none) w) _ (nI c) M = _
    have h5 := hT.2.1.2.1
    have q5 : gI M (128 * gR M 1280 + 5) = nI T.nc := by rw [hS.2.1]; exact hT.2.2.1
    unfold bX6_countEmpty_4
    by_cases g : c = T.nc
    · rw [g]
      exact eq_t (by rw [q5]; exact Int32.le_refl _) rfl
    · have cc : (nI c).toNatClampNeg = c := nI_clamp (by omega)
      have ih := xce hT hS w (c + 1) (by omega) (by omega)
      have p := (hS.2.2.2.1 c (by omega)).1
      refine eq_f (by rw [q5]; exact nI_ge (by omega) (by omega)) (eq_f (nI_in (by omega) (by decide)) ?_)
      unfold fX6_countEmpty_28
      rw [show nI c + 1 = nI (c + 1) from nI_add c 1]
      by_cases g2 : (pm c).1 = -1
      · refine eq_t (by rw [cc, p]; exact g2) ?_
        rw [show nI (ce pm c) + 1 = nI (ce pm (c + 1)) by rw [show ce pm (c + 1) = ce pm c + 1 by show ce pm c + _ = _; rw [if_pos g2]]; exact nI_add _ 1]
        exact ih
      · refine eq_f (by rw [cc, p]; exact g2) ?_
        rw [show ce pm (c + 1) = ce pm c by show ce pm c + _ = _; rw [if_neg g2]; rfl] at ih
        exact ih
theorem yce {n0 b m : Nat} {T : TP} {pm : Nat → Int32 × Nat} {M : Mem} (hT : YT n0 b T M) (hL : Ly 0 T.nc m pm M) : ∀ w c, c ≤ T.nc → T.nc < w + c → loopN (bX12_has_119 n0) (fun _ _ _ => none) w (nI (ce pm c)) (nI c) M = some (nI (ce pm T.nc), M)
  | 0, _, _, h => by omega
  | w + 1, c, hc, h => by
    show bX12_has_119 n0 (loopN (bX12_has_119 n0) (fun _ _ _ => none) w) _ (nI c) M = _
    have h5 := hT.2.1.2.1
    have hb := hT.2.2.1
    have q5 : gA M 5 (gI M 13).toNatClampNeg = nI T.nc := by rw [hT.2.2.2.1, nI_clamp (by omega)]; exact hT.2.2.2.2.2.1
    have o13 : ¬ oob (gI M 13) 2 := by rw [hT.2.2.2.1]; exact nI_in (by omega) (by decide)
    unfold bX12_has_119
    by_cases g : c = T.nc
    · rw [g]
      exact eq_f o13 (eq_t (by rw [q5]; exact Int32.le_refl _) rfl)
    · have cc : (nI c).toNatClampNeg = c := nI_clamp (by omega)
      have ih := yce hT hL w (c + 1) (by omega) (by omega)
      have p := (hL.2 c (by omega)).1
      rw [show 5 * 0 + c = c by omega] at p
      refine eq_f o13 (eq_f (by rw [q5]; exact nI_ge (by omega) (by omega)) (eq_f (nI_in (by omega) (by decide)) ?_))
      unfold fX12_has_148
      rw [show nI c + 1 = nI (c + 1) from nI_add c 1]
      by_cases g2 : (pm c).1 = -1
      · refine eq_t (by rw [cc, p]; exact g2) (eq_e (v' := nI (ce pm (c + 1))) ?_ ih)
        rw [show ce pm (c + 1) = ce pm c + 1 by show ce pm c + _ = _; rw [if_pos g2]]
        exact nI_add _ 1
      · refine eq_f (by rw [cc, p]; exact g2) (eq_e (v' := nI (ce pm (c + 1))) ?_ ih)
        rw [show ce pm (c + 1) = ce pm c + 0 by show ce pm c + _ = _; rw [if_neg g2]]
        exact nI_add _ 0
theorem cHas {n0 : Nat} {x : Int32} {MX MY : Mem} (hn : 1700 ≤ n0) (h : R n0 MX MY) : Cal n0 (fX11_has n0 x MX) (fX12_has n0 x MY) := by
  have h0 := h
  obtain ⟨q, b, T, nr, C, m, pm, s, h⟩ := h
  obtain ⟨h1, h2, h3, h4, h5, h6, h7⟩ := id h
  obtain ⟨o1, o2, o3, _⟩ := h1.2.2.2.1.2.1
  have hb := h1.2.2.2.2.1.2.2.1
  have h13 := h1.2.2.2.2.1.2.2.2.1
  have cb : (gI MY 13).toNatClampNeg = b := by rw [h13]; exact nI_clamp (by omega)
  have o13 : ¬ oob (gI MY 13) 2 := by rw [h13]; exact nI_in (by omega) (by decide)
  have r1 := h1.2.1
  unfold fX11_has fX12_has
  rw [r1]
  by_cases g0 : x = 0
  · exact Cal.same (r := nI T.nt) h0 (eq_t g0 (by rw [h1.2.2.2.1.1.2.2.1])) (eq_t g0 (eq_f o13 (by rw [cb, h1.2.2.2.2.1.2.2.2.2.1])))
  by_cases g1 : x = 1
  · exact Cal.same (r := nI T.nc) h0 (eq_f g0 (eq_t g1 (by rw [h1.2.2.2.1.2.2.1]))) (eq_f g0 (eq_t g1 (eq_f o13 (by rw [cb, h1.2.2.2.2.1.2.2.2.2.2.1]))))
  by_cases g2 : x = 2
  · exact Cal.same (r := nI nr) h0 (eq_f g0 (eq_f g1 (eq_t g2 (by rw [h1.2.2.2.2.2.1.2.2.2.2.1.1])))) (eq_f g0 (eq_f g1 (eq_t g2 (eq_f o13 (by rw [cb, h1.2.2.2.2.2.1.2.2.2.2.1.2.1])))))
  by_cases g3 : x = 3
  · exact Cal.same (r := nI T.nd) h0 (eq_f g0 (eq_f g1 (eq_f g2 (eq_t g3 (by rw [h1.2.2.2.1.2.2.2.1]))))) (eq_f g0 (eq_f g1 (eq_f g2 (eq_t g3 (eq_f o13 (by rw [cb, h1.2.2.2.2.1.2.2.2.2.2.2.1]))))))
  by_cases g4 : x = 4
  · exact Cal.same (r := nI m) h0 (eq_f g0 (eq_f g1 (eq_f g2 (eq_f g3 (eq_t g4 (by rw [h3.2.2.1])))))) (eq_f g0 (eq_f g1 (eq_f g2 (eq_f g3 (eq_t g4 (eq_f (by decide) (by rw [show gA MY 28 (Int32.toNatClampNeg 0) = nI m from h4.1.1])))))))
  by_cases g5 : x = 5
  · have s64 : s.1 < 64 := Nat.lt_of_lt_of_le h2.2.2.1 (p64 o3)
    have e1 : fX6_countDone n0 MX = some (nI (sm s.1 T.nd), MX) := xcd h1.2.2.2.1 h3 n0 0 (by omega) (by omega)
    have pl := pc_le s.1
    have e2 : fX12_bits n0 (nI s.1) MY = some (nI (0 + pc s.1), MY) := ybits n0 0 s.1 s64 (by omega)
    rw [sm_pc T.nd (by omega) s.1 h2.2.2.1] at e1
    rw [Nat.zero_add] at e2
    exact Cal.same (r := nI (pc s.1)) h0 (eq_f g0 (eq_f g1 (eq_f g2 (eq_f g3 (eq_f g4 (eq_t g5 (eq_b e1 rfl))))))) (eq_f g0 (eq_f g1 (eq_f g2 (eq_f g3 (eq_f g4 (eq_t g5 (eq_f (by decide) (eq_b (by rw [show gA MY 31 (Int32.toNatClampNeg 0) = nI s.1 from h4.2.1]; exact e2) rfl))))))))
  by_cases g6 : x = 6
  · have e1 : fX6_countEmpty n0 MX = some (nI (ce pm T.nc), MX) := xce h1.2.2.2.1 h3 n0 0 (by omega) (by omega)
    have e2 : fX12_has_119 n0 0 0 MY = some (nI (ce pm T.nc), MY) := yce h1.2.2.2.2.1 h4.1 n0 0 (by omega) (by omega)
    exact Cal.same (r := nI (ce pm T.nc)) h0 (eq_f g0 (eq_f g1 (eq_f g2 (eq_f g3 (eq_f g4 (eq_f g5 (eq_t g6 (eq_b e1 rfl)))))))) (eq_f g0 (eq_f g1 (eq_f g2 (eq_f g3 (eq_f g4 (eq_f g5 (eq_t g6 e2)))))))
  by_cases g7 : x = 7
  · exact Cal.same (r := nI s.2.length) h0 (eq_f g0 (eq_f g1 (eq_f g2 (eq_f g3 (eq_f g4 (eq_f g5 (eq_f g6 (eq_t g7 (by rw [h3.2.2.2.2.2.1]))))))))) (eq_f g0 (eq_f g1 (eq_f g2 (eq_f g3 (eq_f g4 (eq_f g5 (eq_f g6 (eq_t g7 (eq_f (by decide) (by rw [show gA MY 32 (Int32.toNatClampNeg 0) = nI s.2.length from h4.2.2.1]))))))))))
  by_cases g8 : x = 8
  · obtain ⟨n, n1, n2, n3, _⟩ := h6
    exact Cal.same (r := nI n) h0 (eq_f g0 (eq_f g1 (eq_f g2 (eq_f g3 (eq_f g4 (eq_f g5 (eq_f g6 (eq_f g7 (eq_t g8 (by rw [n2])))))))))) (eq_f g0 (eq_f g1 (eq_f g2 (eq_f g3 (eq_f g4 (eq_f g5 (eq_f g6 (eq_f g7 (eq_t g8 (by rw [n3]))))))))))
  by_cases g9 : x = 9
  · obtain ⟨x0, f, u, e, a1, a2, a3, a4, a5, a6, a7, _⟩ := h5
    exact Cal.same (r := nI u) h0 (eq_f g0 (eq_f g1 (eq_f g2 (eq_f g3 (eq_f g4 (eq_f g5 (eq_f g6 (eq_f g7 (eq_f g8 (eq_t g9 (by rw [a5]))))))))))) (eq_f g0 (eq_f g1 (eq_f g2 (eq_f g3 (eq_f g4 (eq_f g5 (eq_f g6 (eq_f g7 (eq_f g8 (eq_t g9 (by rw [a7])))))))))))
  by_cases g10 : x = 10
  · obtain ⟨z, z1, z2, z3⟩ := h7.1
    exact Cal.same (r := nI z) h0 (eq_f g0 (eq_f g1 (eq_f g2 (eq_f g3 (eq_f g4 (eq_f g5 (eq_f g6 (eq_f g7 (eq_f g8 (eq_f g9 (eq_t g10 (by rw [z2])))))))))))) (eq_f g0 (eq_f g1 (eq_f g2 (eq_f g3 (eq_f g4 (eq_f g5 (eq_f g6 (eq_f g7 (eq_f g8 (eq_f g9 (eq_t g10 (by rw [z3, zL_int (by omega) (by omega), nz]))))))))))))
  exact Cal.same (r := -1) h0 (eq_f g0 (eq_f g1 (eq_f g2 (eq_f g3 (eq_f g4 (eq_f g5 (eq_f g6 (eq_f g7 (eq_f g8 (eq_f g9 (eq_f g10 rfl))))))))))) (eq_f g0 (eq_f g1 (eq_f g2 (eq_f g3 (eq_f g4 (eq_f g5 (eq_f g6 (eq_f g7 (eq_f g8 (eq_f g9 (eq_f g10 rfl)))))))))))
