/-! THE HOUR OF A PALM, AND WHETHER ITS THING IS GONE, ON BOTH SIDES -/
def tOk (nt : Nat) (t : Int32) : Prop := t = -1 ∨ ∃ k, k < nt ∧ t = nI k
/-- what the class may change while it looks for an hour -/
def VX2 (M M' : Mem) : Prop := gR M' = gR M ∧ gL M' = gL M ∧ gB M' = gB M ∧ (∀ a, ¬ (a = 8 ∨ a = 9) → gA M' a = gA M a) ∧ ∀ k, ¬ k = 903 → gI M' k = gI M k
/-- what the reference may change while it looks for an hour -/
def VY2 (M M' : Mem) : Prop := gR M' = gR M ∧ gL M' = gL M ∧ gI M' = gI M ∧ (∀ a, ¬ a = 35 → gA M' a = gA M a) ∧ ∀ a, ¬ a = 34 → gB M' a = gB M a
theorem VX2.r {M : Mem} : VX2 M M := ⟨rfl, rfl, rfl, fun _ _ => rfl, fun _ _ => rfl⟩
theorem VX2.tr {M M' M2 : Mem} (h : VX2 M M') (g : VX2 M' M2) : VX2 M M2 := ⟨g.1.trans h.1, g.2.1.trans h.2.1, g.2.2.1.trans h.2.2.1, fun a z => (g.2.2.2.1 a z).trans (h.2.2.2.1 a z), fun a z => (g.2.2.2.2 a z).trans (h.2.2.2.2 a z)⟩
theorem VX.two {M M' : Mem} (h : VX M M') : VX2 M M' := ⟨h.1, h.2.1, h.2.2.1, fun a z => h.2.2.2.1 a (fun e => z (Or.inr e)), h.2.2.2.2⟩
theorem VY2.r {M : Mem} : VY2 M M := ⟨rfl, rfl, rfl, fun _ _ => rfl, fun _ _ => rfl⟩
theorem VY2.tr {M M' M2 : Mem} (h : VY2 M M') (g : VY2 M' M2) : VY2 M M2 := ⟨g.1.trans h.1, g.2.1.trans h.2.1, g.2.2.1.trans h.2.2.1, fun a z => (g.2.2.2.1 a z).trans (h.2.2.2.1 a z), fun a z => (g.2.2.2.2 a z).trans (h.2.2.2.2 a z)⟩
theorem VY.two {M M' : Mem} (h : VY M M') : VY2 M M' := ⟨h.1, h.2.1, h.2.2.2.1, fun a _ => by rw [h.2.2.1], h.2.2.2.2⟩
theorem xLay_f {w h c m e l : Int32} {M : Mem} : VX2 M (xLay w h c m e l M) := by
  unfold xLay
  refine ⟨rfl, rfl, rfl, fun a z => ?_, fun k z => gI_ne z⟩
  have z8 : a ≠ 8 := fun g => z (Or.inl g)
  show gA (sA (sA (sA (sA (sA (sA M 8 0 w) 8 1 h) 8 2 c) 8 3 m) 8 4 e) 8 5 l) a = gA M a
  rw [gA_sA_ne z8, gA_sA_ne z8, gA_sA_ne z8, gA_sA_ne z8, gA_sA_ne z8, gA_sA_ne z8]
theorem yLay_f {w h c m e l : Int32} {M : Mem} : VY2 M (yLay w h c m e l M) := by
  unfold yLay
  refine ⟨rfl, rfl, rfl, fun a z => ?_, fun a _ => rfl⟩
  rw [gA_sA_ne z, gA_sA_ne z, gA_sA_ne z, gA_sA_ne z, gA_sA_ne z, gA_sA_ne z]
def fac (w h c m e l : Nat) : Nat → Nat
  | 0 => w
  | 1 => h
  | 2 => c
  | 3 => m
  | 4 => e
  | _ => l
theorem xLay_v {w h c m e l : Nat} {M : Mem} : ∀ s, s < 6 → gA (xLay (nI w) (nI h) (nI c) (nI m) (nI e) (nI l) M) 8 s = nI (fac w h c m e l s)
  | 0, _ => rfl
  | 1, _ => rfl
  | 2, _ => rfl
  | 3, _ => rfl
  | 4, _ => rfl
  | 5, _ => rfl
  | n + 6, h => by omega
theorem yLay_v {w h c m e l : Nat} {M : Mem} : ∀ s, s < 6 → gA (yLay (nI w) (nI h) (nI c) (nI m) (nI e) (nI l) M) 35 (s + 1) = nI (fac w h c m e l s)
  | 0, _ => rfl
  | 1, _ => rfl
  | 2, _ => rfl
  | 3, _ => rfl
  | 4, _ => rfl
  | 5, _ => rfl
  | n + 6, h => by omega
theorem exL_pos {δ : List (Int32 × Int32)} (h : 0 < δ.length) : 0 < (exL δ).length := by
  match δ, h with
  | c :: δ, _ =>
    have e : exL (c :: δ) = ex1 c ++ exL δ := rfl
    rw [e, List.length_append]
    have : 0 < (ex1 c).length := by
      unfold ex1
      by_cases g : c.1 = 0
      · rw [if_pos g]; exact Nat.zero_lt_one
      · rw [if_neg g]
        by_cases g2 : c.1 = 43
        · rw [if_pos g2]; decide
        · rw [if_neg g2]; exact Nat.zero_lt_one
    omega
theorem hrk (a : Int) : zI (hr a) = nI (hr a).toNat := by rw [nz, Int.toNat_of_nonneg (hr_r a).1]
theorem hrk_le (a : Int) : (hr a).toNat ≤ 23 := by have := hr_r a; omega
/-- both sides look at one palm: corner c, thing t, held h, minute m; layer v of the reference -/
def PmX (q c : Nat) (t : Int32) (h m : Nat) (M : Mem) : Prop := gR M 896 = q ∧ gI M 897 = nI c ∧ gI M 898 = t ∧ gI M 899 = nI h ∧ gI M 900 = nI m
def PmY (b v c : Nat) (t : Int32) (h m : Nat) (M : Mem) : Prop := gI M 13 = nI b ∧ v < 22 ∧ gA M 28 v = nI m ∧ gA M 29 (5 * v + c) = t ∧ gA M 30 (5 * v + c) = nI h
def PmO (nt c : Nat) (t : Int32) (h m : Nat) : Prop := c < 5 ∧ tOk nt t ∧ h ≤ 999 ∧ m ≤ 20000
theorem laidP {n0 q b nt nc nd nr C v c h m : Nat} {t : Int32} {MX MY : Mem} (hT : TownR q b nt nc nd nr C MX MY) (hq : q = 31 ∨ q = 47) (hb : b ≤ 1) (hX : PmX q c t h m MX) (hY : PmY b v c t h m MY) (hO : PmO nt c t h m) :
    ∃ w l e, w ≤ 99 ∧ l ≤ 99 ∧ e ≤ 1 ∧ (∀ q1, fX1_valueOf n0 q1 MX = vL n0 q1 n0 (nI 0) (xLay (nI w) (nI h) (nI c) (nI m) (nI e) (nI l) MX)) ∧ fX12_lays n0 (nI v) (nI c) MY = some (yLay (nI w) (nI h) (nI c) (nI m) (nI e) (nI l) MY) ∧ (t = -1 → w = 0) ∧ (∀ k, k < nt → t = nI k → gA MX (q + 2) k = nI w ∧ gA MX (q + 3) k = nI l) := by
  obtain ⟨x0, x1, x2, x3, x4⟩ := hX
  obtain ⟨y0, hv, y1, y2, y3⟩ := hY
  obtain ⟨hc, ht, hh, hm⟩ := hO
  have hnt : nt ≤ 6 := hT.1.1.2.2.1
  rcases ht with ht | ⟨k, hk, ht⟩
  · refine ⟨0, 0, 1, by omega, by omega, by omega, fun q1 => ?_, ?_, fun _ => rfl, fun k hk e => absurd (e.symm.trans ht) (nI_m1 (by omega))⟩
    · rw [xvalN (x2.trans ht), x3, x1, x4]; rfl
    · rw [ylayN hv hc (y2.trans ht), y3, y1]; rfl
  · obtain ⟨t1, ⟨w, w1, w2⟩, t2, ⟨l, _, l1, l2⟩⟩ := hT.2.1 k hk
    refine ⟨w, l, 0, w1, l1, by omega, fun q1 => ?_, ?_, fun e => absurd (ht.symm.trans e) (nI_m1 (by omega)), fun k' hk' e => ?_⟩
    · rw [xvalT x0 (by omega) hT.1.1.1 hnt hk (x2.trans ht), x3, x1, x4, w2, l2]; rfl
    · rw [ylayT hv hc hb y0 (by omega) (y2.trans ht), y3, y1, show gA MY 3 (6 * b + k) = nI w from t1.symm.trans w2, show gA MY 4 (6 * b + k) = nI l from t2.symm.trans l2]; rfl
    · have : k' = k := (nI_eq (by omega) (by omega)).mp (e.symm.trans ht)
      rw [this]
      exact ⟨w2, l2⟩
theorem xTold {n0 q1 len : Nat} {M : Mem} (h : gI M (128 * q1 + 1) = nI len) (h1 : 0 < len) (h2 : len ≤ 1600) : fX0_isTold n0 q1 M = some (1, M) := by
  unfold fX0_isTold
  rw [h]
  exact eq_f (nI_ge (a := 0) h1 (by omega)) rfl
theorem xUntold {n0 q1 : Nat} {M : Mem} (h : gI M (128 * q1 + 1) = 0) : fX0_isTold n0 q1 M = some (0, M) := by
  unfold fX0_isTold
  rw [h]
  exact eq_t (by decide) rfl
theorem yTold {n0 b wh : Nat} {M : Mem} (h13 : gI M 13 = nI b) (hb : b ≤ 1) (hw : wh ≤ 1) {c0 : Nat} (hc : c0 ≤ 1600) (h : gA M 14 (2 * b + wh) = nI c0) : fX12_isTold n0 (nI wh) M = some (1, M) := by
  unfold fX12_isTold
  rw [h13]
  simp only [y2Ix]
  refine eq_f (nI_in (by omega) (by decide)) (eq_f ?_ rfl)
  rw [nI_clamp (by omega), h]
  exact nI_m1 (by omega)
theorem yUntold {n0 b wh : Nat} {M : Mem} (h13 : gI M 13 = nI b) (hb : b ≤ 1) (hw : wh ≤ 1) (h : gA M 14 (2 * b + wh) = -1) : fX12_isTold n0 (nI wh) M = some (0, M) := by
  unfold fX12_isTold
  rw [h13]
  simp only [y2Ix]
  refine eq_f (nI_in (by omega) (by decide)) (eq_t ?_ rfl)
  rw [nI_clamp (by omega), h]
theorem hourP {n0 q b nt nc nd nr C v c h m : Nat} {t : Int32} {MX MY : Mem} (hn : 1700 ≤ n0) (hT : TownR q b nt nc nd nr C MX MY) (hq : q = 31 ∨ q = 47) (hb : b ≤ 1) (hX : PmX q c t h m MX) (hY : PmY b v c t h m MY) (hO : PmO nt c t h m) :
    ∃ k MX' MY', k ≤ 23 ∧ fX1_hourNow n0 MX = some (nI k, MX') ∧ fX12_hour n0 (nI v) (nI c) MY = some (nI k, MY') ∧ VX2 MX MX' ∧ VY2 MY MY' := by
  obtain ⟨w, l, e, w1, l1, e1, hx, hy, hw0, hwk⟩ := laidP (n0 := n0) hT hq hb hX hY hO
  obtain ⟨x0, x1, x2, x3, x4⟩ := hX
  obtain ⟨y0, hv, y1, y2, y3⟩ := hY
  obtain ⟨hc, ht, hh, hm⟩ := hO
  have hnt : nt ≤ 6 := hT.1.1.2.2.1
  have fY := yLay_f (w := nI w) (h := nI h) (c := nI c) (m := nI m) (e := nI e) (l := nI l) (M := MY)
  have fX := xLay_f (w := nI w) (h := nI h) (c := nI c) (m := nI m) (e := nI e) (l := nI l) (M := MX)
  have y13 : gI (yLay (nI w) (nI h) (nI c) (nI m) (nI e) (nI l) MY) 13 = nI b := (congrFun fY.2.2.1 13).trans y0
  rcases hT.2.2.2.2.2.2.1 with ⟨f1, f2⟩ | ⟨c0, δ, d1, d2, ⟨dx1, dx2⟩, d3, d4, d5, d6, d7⟩
  · refine ⟨(hr w).toNat, MX, _, hrk_le _, ?_, ?_, VX2.r, fY⟩
    · unfold fX1_hourNow
      rw [x0]
      refine eq_b (xUntold f1) (eq_t rfl ?_)
      rw [← hrk]
      have ew : mR (w : Int) := by unfold mR; omega
      rcases ht with ht | ⟨k, hk, ht⟩
      · have e0 : fX9_isThing n0 (gR MX 896) (gI MX 898) MX = some (0, MX) := by
          unfold fX9_isThing
          rw [x2.trans ht]
          exact eq_t (by decide) rfl
        refine eq_b e0 (eq_t rfl ?_)
        rw [hw0 ht]
        exact xhour (a := 0) (by unfold mR; omega)
      · have e0 : fX9_isThing n0 (gR MX 896) (gI MX 898) MX = some (1, MX) := by
          unfold fX9_isThing
          rw [x0, x2.trans ht, hT.1.1.1]
          exact eq_f (fun z => absurd (show oob (nI k) 6 from Or.inl z) (nI_in (by omega) (by decide))) (eq_f (nI_ge hk (by omega)) rfl)
        refine eq_b e0 (eq_f (show ¬ (1 : Int32) = 0 by decide) (eq_f ?_ (eq_n ?_)))
        · show ¬ oob (gI MX 898) 6
          rw [x2.trans ht]
          exact nI_in (by omega) (by decide)
        · show fX1_hourNow_57 n0 (gA MX (gR MX 896 + 2) (gI MX 898).toNatClampNeg) MX = _
          rw [x0, x2.trans ht, nI_clamp (by omega), (hwk k hk ht).1, nz]
          exact xhour ew
    · unfold fX12_hour
      refine eq_b hy (eq_b (yUntold (wh := 0) y13 hb (by decide) (by rw [fY.2.2.2.1 14 (by decide)]; exact f2)) (eq_t rfl (eq_f (by decide) ?_)))
      show fX12_hour_29 n0 (nI w).toInt64 _ = _
      have ew : mR (w : Int) := by unfold mR; omega
      rw [nz w, zI_long ew.i.1 ew.i.2, ← hrk]
      exact yhour ew
  · have hC := hT.2.2.2.2.2.2.2.2
    obtain ⟨a, MX', MY', v1, v2, v3, _, v5, v6⟩ := valP (n0 := n0) (q := q) (b := b) (C := C) (wh := 0) (MX := xLay (nI w) (nI h) (nI c) (nI m) (nI e) (nI l) MX) (MY := yLay (nI w) (nI h) (nI c) (nI m) (nI e) (nI l) MY) (fac w h c m e l) hn hq hb (by decide)
      ⟨c0, δ, d1, d2, ⟨(fX.2.2.2.2 _ (by omega)).trans dx1, fun i hi => by rw [fX.2.2.2.1 _ (by omega)]; exact dx2 i hi⟩, by rw [fY.2.2.2.1 14 (by decide)]; exact d3, by rw [fY.2.2.2.1 15 (by decide)]; exact d4, fun i hi => by rw [fY.2.2.2.1 16 (by decide), fY.2.2.2.1 17 (by decide)]; exact d5 i hi, d6, d7⟩ hC y13 xLay_v yLay_v (fun s hs => by match s, hs with | 0, _ => show w ≤ _; omega | 1, _ => show h ≤ _; omega | 2, _ => show c ≤ _; omega | 3, _ => show m ≤ _; omega | 4, _ => show e ≤ _; omega | 5, _ => show l ≤ _; omega | n + 6, z => omega) rfl
    refine ⟨(hr a).toNat, MX', MY', hrk_le _, ?_, ?_, fX.tr v5.two, fY.tr v6.two⟩
    · unfold fX1_hourNow
      rw [x0]
      refine eq_b (xTold dx1 (exL_pos d1) d7) (eq_f (show ¬ (1 : Int32) = 0 by decide) ?_)
      show Option.bind (fX1_valueOf n0 (gR MX 896 + 12) MX) _ = _
      rw [x0]
      refine eq_b ((hx _).trans v1) ?_
      rw [← hrk]
      exact xhour v3
    · unfold fX12_hour
      refine eq_b hy (eq_b (yTold (wh := 0) (c0 := c0) y13 hb (by decide) (by omega) (by rw [fY.2.2.2.1 14 (by decide)]; exact d3)) (eq_f (show ¬ (1 : Int32) = 0 by decide) (eq_b v2 ?_)))
      rw [← hrk]
      exact yhour v3
/-- whether the thing that the class looks at is gone -/
abbrev xTst (n0 : Nat) (M : Mem) : Option Mem :=
  (fX0_isTold n0 ((gR M 896) + 14) M).bind fun z54 =>
    if z54.1 = 0 then
      if oob (gI z54.2 898) 6 then none else
      if (gI z54.2 899) < (gA z54.2 ((gR z54.2 896) + 3) (Int32.toNatClampNeg (gI z54.2 898))) then
        fX1_goOn_106 n0 (0 : Int32) z54.2
      else
        fX1_goOn_106 n0 (1 : Int32) z54.2
    else
      (fX1_valueOf n0 ((gR z54.2 896) + 14) z54.2).bind fun z68 =>
      if z68.1 = 0 then
        fX1_goOn_106 n0 (0 : Int32) z68.2
      else
        fX1_goOn_106 n0 (1 : Int32) z68.2
theorem goneP {n0 q b nt nc nd nr C v c h m : Nat} {t : Int32} {MX MY : Mem} (hn : 1700 ≤ n0) (hT : TownR q b nt nc nd nr C MX MY) (hq : q = 31 ∨ q = 47) (hb : b ≤ 1) (hX : PmX q c t h m MX) (hY : PmY b v c t h m MY) (hO : PmO nt c t h m) (hne : ¬ t = -1) :
    ∃ (g : Bool) (MX' MY' : Mem), xTst n0 MX = fX1_goOn_106 n0 (bI (g = true)) MX' ∧ fX12_isGone n0 (nI v) (nI c) MY = some (bI (g = true), MY') ∧ VX2 MX MX' ∧ VY2 MY MY' := by
  obtain ⟨w, l, e, w1, l1, e1, hx, hy, hw0, hwk⟩ := laidP (n0 := n0) hT hq hb hX hY hO
  obtain ⟨x0, x1, x2, x3, x4⟩ := hX
  obtain ⟨y0, hv, y1, y2, y3⟩ := hY
  obtain ⟨hc, ht, hh, hm⟩ := hO
  have hnt : nt ≤ 6 := hT.1.1.2.2.1
  obtain ⟨k, hk, ht⟩ : ∃ k, k < nt ∧ t = nI k := by
    rcases ht with ht | ht
    · exact absurd ht hne
    · exact ht
  have fY := yLay_f (w := nI w) (h := nI h) (c := nI c) (m := nI m) (e := nI e) (l := nI l) (M := MY)
  have fX := xLay_f (w := nI w) (h := nI h) (c := nI c) (m := nI m) (e := nI e) (l := nI l) (M := MX)
  have y13 : gI (yLay (nI w) (nI h) (nI c) (nI m) (nI e) (nI l) MY) 13 = nI b := (congrFun fY.2.2.1 13).trans y0
  have o1 : ¬ oob ((5 : Int32) * nI v + nI c) 110 := by rw [yIx]; exact nI_in (by omega) (by decide)
  have n1 : ¬ gA (yLay (nI w) (nI h) (nI c) (nI m) (nI e) (nI l) MY) 29 ((5 : Int32) * nI v + nI c).toNatClampNeg = -1 := by
    rw [fY.2.2.2.1 29 (by decide), yIx, nI_clamp (by omega), y2]
    exact hne
  rcases hT.2.2.2.2.2.2.2.1 with ⟨f1, f2⟩ | ⟨c0, δ, d1, d2, ⟨dx1, dx2⟩, d3, d4, d5, d6, d7⟩
  · refine ⟨decide (¬ h < l), MX, _, ?_, ?_, VX2.r, fY⟩
    · unfold xTst
      rw [x0]
      refine eq_b (xUntold f1) (eq_t rfl (eq_f ?_ ?_))
      · show ¬ oob (gI MX 898) 6
        rw [x2.trans ht]
        exact nI_in (by omega) (by decide)
      · show (if gI MX 899 < gA MX (gR MX 896 + 3) (gI MX 898).toNatClampNeg then _ else _) = _
        have q1 : gA MX (gR MX 896 + 3) (gI MX 898).toNatClampNeg = nI l := by rw [x0, x2.trans ht, nI_clamp (by omega)]; exact (hwk k hk ht).2
        rw [q1, x3]
        by_cases g : h < l
        · rw [bI_f (by simp [g])]
          exact eq_t (nI_lt g (by omega)) rfl
        · rw [bI_t (by simp [g])]
          exact eq_f (fun z => g ((nI_ltI (by omega) (by omega)).mp z)) rfl
    · unfold fX12_isGone
      refine eq_b hy (eq_f o1 (eq_f n1 (eq_b (yUntold (wh := 1) y13 hb (by decide) (by rw [fY.2.2.2.1 14 (by decide)]; exact f2)) (eq_t rfl (eq_f (by decide) (eq_f (by decide) ?_))))))
      show (if nI h < nI l then _ else _) = _
      by_cases g : h < l
      · rw [bI_f (by simp [g])]
        exact eq_t (nI_lt g (by omega)) rfl
      · rw [bI_t (by simp [g])]
        exact eq_f (fun z => g ((nI_ltI (by omega) (by omega)).mp z)) rfl
  · have hC := hT.2.2.2.2.2.2.2.2
    obtain ⟨a, MX', MY', v1, v2, v3, v4, v5, v6⟩ := valP (n0 := n0) (q := q) (b := b) (C := C) (wh := 1) (MX := xLay (nI w) (nI h) (nI c) (nI m) (nI e) (nI l) MX) (MY := yLay (nI w) (nI h) (nI c) (nI m) (nI e) (nI l) MY) (fac w h c m e l) hn hq hb (by decide)
      ⟨c0, δ, d1, d2, ⟨(fX.2.2.2.2 _ (by omega)).trans dx1, fun i hi => by rw [fX.2.2.2.1 _ (by omega)]; exact dx2 i hi⟩, by rw [fY.2.2.2.1 14 (by decide)]; exact d3, by rw [fY.2.2.2.1 15 (by decide)]; exact d4, fun i hi => by rw [fY.2.2.2.1 16 (by decide), fY.2.2.2.1 17 (by decide)]; exact d5 i hi, d6, d7⟩ hC y13 xLay_v yLay_v (fun s hs => by match s, hs with | 0, _ => show w ≤ _; omega | 1, _ => show h ≤ _; omega | 2, _ => show c ≤ _; omega | 3, _ => show m ≤ _; omega | 4, _ => show e ≤ _; omega | 5, _ => show l ≤ _; omega | n + 6, z => omega) rfl
    have ba := v4 rfl
    refine ⟨decide (a = 1), MX', MY', ?_, ?_, fX.tr v5.two, fY.tr v6.two⟩
    · unfold xTst
      rw [x0]
      refine eq_b (xTold dx1 (exL_pos d1) d7) (eq_f (show ¬ (1 : Int32) = 0 by decide) ?_)
      show Option.bind (fX1_valueOf n0 (gR MX 896 + 14) MX) _ = _
      rw [x0]
      refine eq_b ((hx _).trans v1) ?_
      rcases ba with rfl | rfl
      · rw [bI_f (by decide)]
        exact eq_t rfl rfl
      · rw [bI_t (by decide)]
        exact eq_f (show ¬ zI 1 = 0 by decide) rfl
    · unfold fX12_isGone
      refine eq_b hy (eq_f o1 (eq_f n1 (eq_b (yTold (wh := 1) (c0 := c0) y13 hb (by decide) (by omega) (by rw [fY.2.2.2.1 14 (by decide)]; exact d3)) (eq_f (show ¬ (1 : Int32) = 0 by decide) (eq_b v2 ?_)))))
      rcases ba with rfl | rfl
      · rw [bI_f (by decide)]
        exact eq_f (show ¬ lg_cmp (zL 0) 1 = 0 by decide) rfl
      · rw [bI_t (by decide)]
        exact eq_t (show lg_cmp (zL 1) 1 = 0 by decide) rfl
