/-! ODDS COME TO AN END -/
def CalL (n0 : Nat) (f g : Option (Int64 × Mem)) : Prop := ∃ r r' MX' MY', f = some (r, MX') ∧ g = some (r', MY') ∧ R n0 MX' MY'
theorem CalL.scr {n0 q b : Nat} {T : TP} {nr C m : Nat} {pm : Nat → Int32 × Nat} {s : Nat × List (Nat × Nat)} {MX MY : Mem} {f g : Option (Int64 × Mem)} (h : RR n0 q b T nr C m pm s MX MY) (e1 : okP f (fun z => XF scA MX z.2)) (e2 : okP g (fun z => YF scP MY z.2)) : CalL n0 f g := by
  obtain ⟨⟨r, X⟩, a1, a2⟩ := e1
  obtain ⟨⟨r', Y⟩, b1, b2⟩ := e2
  exact ⟨r, r', X, Y, a1, b1, q, b, T, nr, C, m, pm, s, h.scr a2 b2⟩
theorem nN31 : ∀ a, noN a → a < 31 ∨ 63 ≤ a := fun _ z => z.elim
def OdI (c m : Nat) (M0 : Mem) (s : Int64 × Mem) : Prop := XF noN M0 s.2 ∧ gI s.2 897 = nI c ∧ gI s.2 900 = nI m
theorem xone {n0 q c m h : Nat} {t x1 : Int32} {T : TP} {M : Mem} (hn : 1700 ≤ n0) (hT : XT n0 q T M) (hX : PmX q c t h m M) (hO : PmO T.nt c t h m) (hm : m < 9999) (h1 : gR M 1 = q) : okP (fX11_countRowsOfOne n0 x1 M) (fun z => XF noN M z.2) := by
  have o1 := hT.2.1.1
  obtain ⟨M1, a1, a2, a3⟩ := xgo hT.1 hX hO hm
  have ok := tk_ok (nt := T.nt) (c := c) (m := m + 1) (gF := T.gF) (p := (t, h)) ⟨hO.2.1, hO.2.2.1⟩
  obtain ⟨_, M2, b1, b2, b3⟩ := xhr (hT.1.xf a3 nN31) a2 ⟨hO.1, ok.1, ok.2, by omega⟩
  have lp : ∀ v M3, OdI c (m + 1) M (v, M3) → okP (fX11_countRowsOfOne_26 n0 x1 v M3) (fun z => XF noN M z.2) := fun v M3 hI => by
    refine lpG (L := fun w k s => loopN (bX11_countRowsOfOne_30 n0) (fun _ _ _ _ => none) w x1 s.1 (nI k) s.2) (n := T.nt) (I := OdI c (m + 1) M) (fun w k s hk hs => Or.inr ?_) (fun w s hs => ?_) n0 0 (v, M3) (by omega) (by omega) hI
    · show ∃ s', bX11_countRowsOfOne_30 n0 (loopN (bX11_countRowsOfOne_30 n0) (fun _ _ _ _ => none) w) x1 s.1 (nI k) s.2 = _ ∧ _
      have T1 := hT.xf hs.1 nN31
      have q1 : gR s.2 1 = q := by rw [hs.1.1]; exact h1
      have r1 : gR s.2 896 = q := by rw [hs.1.1]; exact hX.1
      have f1 : XF noN M (hld s.2 (nI c) (nI k) 0 (nI (m + 1))) := hs.1.tr hld_f
      obtain ⟨_, M4, c1, c2, c3⟩ := xhr (hT.1.xf f1 nN31) (hld_p (h := 0) r1) ⟨hO.1, Or.inr ⟨k, hk, rfl⟩, Nat.zero_le _, by omega⟩
      have f4 := f1.tr c3
      by_cases g : nI (T.hF c (nI k) 0 (m + 1)) = x1
      · refine ⟨(s.1 + (gI M4 (128 * (gR M4 1) + 16)).toInt64, M4), ?_, f4, c2.2.1, c2.2.2.2.2⟩
        unfold bX11_countRowsOfOne_30
        refine eq_f (by rw [q1, T1.1.2.2.1]; exact nI_ge hk (by omega)) (eq_b (z := hld s.2 (nI c) (nI k) 0 (nI (m + 1))) (by rw [hs.2.1, hs.2.2]; exact xhold) (eq_b c1 (eq_t g ?_)))
        unfold fX11_countRowsOfOne_88
        rw [show nI k + 1 = nI (k + 1) from nI_add k 1]
        rfl
      · refine ⟨(s.1, M4), ?_, f4, c2.2.1, c2.2.2.2.2⟩
        unfold bX11_countRowsOfOne_30
        refine eq_f (by rw [q1, T1.1.2.2.1]; exact nI_ge hk (by omega)) (eq_b (z := hld s.2 (nI c) (nI k) 0 (nI (m + 1))) (by rw [hs.2.1, hs.2.2]; exact xhold) (eq_b c1 (eq_f g ?_)))
        unfold fX11_countRowsOfOne_88
        rw [show nI k + 1 = nI (k + 1) from nI_add k 1]
    · show okP (bX11_countRowsOfOne_30 n0 (loopN (bX11_countRowsOfOne_30 n0) (fun _ _ _ _ => none) w) x1 s.1 (nI T.nt) s.2) _
      have T1 := hT.xf hs.1 nN31
      have q1 : gR s.2 1 = q := by rw [hs.1.1]; exact h1
      unfold bX11_countRowsOfOne_30
      exact okP_t (by rw [q1, T1.1.2.2.1]; exact Int32.le_refl _) (okP_some hs.1)
  have f2 := a3.tr b3
  unfold fX11_countRowsOfOne
  refine okP_be a1 (okP_be b1 (okP_ite (fun _ => ?_) (fun _ => lp _ _ ⟨f2, b2.2.1, b2.2.2.2.2⟩)))
  exact okP_be rfl (lp _ _ ⟨f2, b2.2.1, b2.2.2.2.2⟩)
theorem xtwo {n0 q c m h : Nat} {t x1 : Int32} {T : TP} {M : Mem} (hn : 1700 ≤ n0) (hT : XT n0 q T M) (hX : PmX q c t h m M) (hO : PmO T.nt c t h m) (hm : m + 1 < 9999) (h1 : gR M 1 = q) : okP (fX11_countRowsOfTwo n0 x1 M) (fun z => XF noN M z.2) := by
  have o1 := hT.2.1.1
  obtain ⟨M1, a1, a2, a3⟩ := xgo hT.1 hX hO (by omega)
  have ok := tk_ok (nt := T.nt) (c := c) (m := m + 1) (gF := T.gF) (p := (t, h)) ⟨hO.2.1, hO.2.2.1⟩
  obtain ⟨⟨r2, M2⟩, b1, b2⟩ := xone (n0 := n0) (x1 := x1) hn (hT.xf a3 nN31) a2 ⟨hO.1, ok.1, ok.2, by omega⟩ (by omega) (by rw [a3.1]; exact h1)
  have b2' : XF noN M1 M2 := b2
  unfold fX11_countRowsOfTwo
  refine okP_bnd (okP_be a1 (okP_bnd (okP_be rfl (okP_be b1 (okP_bnd ?_)))))
  rw [hX.2.1, a2.2.2.2.2]
  refine lpG (L := fun w k (s : Int64 × Mem) => loopN (bX11_countRowsOfTwo_38 n0) (fun _ _ _ _ _ _ => none) w x1 (nI c) (nI (m + 1)) s.1 (nI k) s.2) (n := T.nt) (I := fun s => XF noN M s.2) (fun w k s hk hs => Or.inr ?_) (fun w s hs => ?_) n0 0 (_, M2) (by omega) (by omega) (a3.tr b2')
  · show ∃ s', bX11_countRowsOfTwo_38 n0 (loopN (bX11_countRowsOfTwo_38 n0) (fun _ _ _ _ _ _ => none) w) x1 (nI c) (nI (m + 1)) s.1 (nI k) s.2 = _ ∧ _
    have T1 := hT.xf hs nN31
    have q1 : gR s.2 1 = q := by rw [hs.1]; exact h1
    have r1 : gR s.2 896 = q := by rw [hs.1]; exact hX.1
    have f1 : XF noN M (hld s.2 (nI c) (nI k) 0 (nI (m + 1))) := hs.tr hld_f
    obtain ⟨⟨r3, M3⟩, c1, c2⟩ := xone (n0 := n0) (x1 := x1) hn (hT.xf f1 nN31) (hld_p (h := 0) r1) ⟨hO.1, Or.inr ⟨k, hk, rfl⟩, Nat.zero_le _, by omega⟩ (by omega) q1
    refine ⟨(s.1 + (gI (hld s.2 (nI c) (nI k) 0 (nI (m + 1))) (128 * gR (hld s.2 (nI c) (nI k) 0 (nI (m + 1))) 1 + 16)).toInt64 * r3, M3), ?_, f1.tr c2⟩
    unfold bX11_countRowsOfTwo_38
    refine eq_f (by rw [q1, T1.1.2.2.1]; exact nI_ge hk (by omega)) (eq_b (z := hld s.2 (nI c) (nI k) 0 (nI (m + 1))) xhold (eq_b c1 ?_))
    rw [show nI k + 1 = nI (k + 1) from nI_add k 1]
    rfl
  · show okP (bX11_countRowsOfTwo_38 n0 (loopN (bX11_countRowsOfTwo_38 n0) (fun _ _ _ _ _ _ => none) w) x1 (nI c) (nI (m + 1)) s.1 (nI T.nt) s.2) _
    have T1 := hT.xf hs nN31
    have q1 : gR s.2 1 = q := by rw [hs.1]; exact h1
    unfold bX11_countRowsOfTwo_38
    exact okP_t (by rw [q1, T1.1.2.2.1]; exact Int32.le_refl _) (okP_some hs)
theorem xbey {n0 q nc nd m d : Nat} {pm : Nat → Int32 × Nat} {s : Nat × List (Nat × Nat)} {X : Mem} (S : SX q nc nd m pm s X) (hm : m ≤ 9999) (hd : d ≤ 100) : fX11_isBeyond n0 (nI d) X = some (bI (9999 - m < d), X) := by
  unfold fX11_isBeyond
  rw [S.2.2.1, show (9999 : Int32) - nI m = nI (9999 - m) from nI_subN hm]
  by_cases z : d ≤ 9999 - m
  · rw [bI_f (by omega)]; exact eq_t (nI_le z (by omega)) rfl
  · rw [bI_t (by omega)]; exact eq_f (nI_ge (by omega) (by omega)) rfl
theorem in12 (x : Int32) (h1 : ¬ x < 1) (h2 : ¬ (2 : Int32) < x) : ∃ k, 1 ≤ k ∧ k ≤ 2 ∧ x = nI k := by
  rcases in_or (n := 3) x (by decide) with ⟨k, hk, rfl⟩ | z
  · refine ⟨k, ?_, by omega, rfl⟩
    rcases Nat.lt_or_ge k 1 with y | y
    · exact absurd (nI_lt (b := 1) y (by decide)) h1
    · exact y
  · exfalso
    rw [i_lt] at h1 h2
    have a1 : (1 : Int32).toInt = 1 := rfl
    have a2 : (2 : Int32).toInt = 2 := rfl
    rcases z with z | z
    · rw [i_lt] at z
      have a0 : (0 : Int32).toInt = 0 := rfl
      omega
    · rw [i_le] at z
      have a3 : (nI 3).toInt = 3 := rfl
      omega
theorem xodds {n0 q b : Nat} {T : TP} {nr C m : Nat} {pm : Nat → Int32 × Nat} {s : Nat × List (Nat × Nat)} {x y z : Int32} {MX MY : Mem} (hn : 1700 ≤ n0) (h : RR n0 q b T nr C m pm s MX MY) : okP (fX11_odds n0 x y z MX) (fun u => XF scA MX u.2) := by
  obtain ⟨h1, h2, h3, h4, _⟩ := id h
  obtain ⟨o1, o2, o3, _⟩ := h1.2.2.2.1.2.1
  have hm := h2.1
  have e0 : ∀ {v : Int64}, okP (some (v, MX)) (fun u => XF scA MX u.2) := okP_some XF.r
  unfold fX11_odds
  rcases isCo h1 x with ⟨c, hc, rfl, e1, _⟩ | ⟨_, e1, _⟩
  · refine okP_be e1 (okP_f (show ¬ (1 : Int32) = 0 by decide) (okP_ite (fun _ => e0) (fun _ => okP_ite (fun _ => e0) (fun z1 => okP_ite (fun _ => e0) (fun z2 => ?_)))))
    obtain ⟨k, k1, k2, rfl⟩ := in12 z z1 z2
    refine okP_be (xbey h3 hm (by omega)) (okP_ite (fun z3 => okP_ite (fun _ => e0) (fun _ => okP_ite (fun _ => okP_ite (fun _ => okP_bnd (okP_ite (fun _ => e0) (fun _ => e0))) (fun _ => ?_)) (fun _ => e0))) (fun _ => e0))
    have z4 : ¬ 9999 - m < k := fun u => by
      have z3' : bI (9999 - m < k) = 0 := z3
      rw [bI_t u] at z3'
      exact absurd z3' (by decide)
    have f1 : XF noN MX (hld MX (nI c) (pm c).1 (nI (pm c).2) (nI m)) := hld_f
    have pO := h2.2.1 c hc
    refine okP_be (xlook h3 o2 hc) (okP_ite (fun _ => ?_) (fun z5 => ?_))
    · obtain ⟨⟨r, X⟩, a1, a2⟩ := xone (n0 := n0) (x1 := y) hn (h1.2.2.2.1.xf f1 nN31) (hld_p h3.1) ⟨by omega, pO.1, pO.2, by omega⟩ (by omega) h1.2.1
      exact okP_be a1 (okP_some (f1.tr a2).n)
    · have k3 : k = 2 := by
        rcases Nat.lt_or_ge k 2 with u | u
        · exact absurd (show nI k = 1 by rw [show k = 1 by omega]; rfl) z5
        · omega
      obtain ⟨⟨r, X⟩, a1, a2⟩ := xtwo (n0 := n0) (x1 := y) hn (h1.2.2.2.1.xf f1 nN31) (hld_p h3.1) ⟨by omega, pO.1, pO.2, by omega⟩ (by omega) h1.2.1
      exact okP_be a1 (okP_some (f1.tr a2).n)
  · exact okP_be e1 (okP_t rfl e0)
abbrev yoL (n0 : Nat) (k94 : Int32 → Int32 → Int32 → Int32 → Int32 → Int64 → Int32 → Mem → Option (Int64 × Mem)) : Nat → Int32 → Int32 → Int32 → Int32 → Int32 → Int64 → Int32 → Int64 → Int32 → Int32 → Mem → Option (Int64 × Mem) := loopN (bX12_odds_117 n0 k94) (fun _ _ _ _ _ _ _ _ _ _ _ => none)
theorem yo117 {n0 b c m n : Nat} {T : TP} {x2 x5 x8 : Int32} {y6 : Int64} {s : Nat × List (Nat × Nat)} {k94 : Int32 → Int32 → Int32 → Int32 → Int32 → Int64 → Int32 → Mem → Option (Int64 × Mem)} (hn : 1700 ≤ n0) (hc : c < T.nc) (hs : sOk T.nd s) (hm : m + n ≤ 9999) (h0 : 0 < T.nt) : ∀ w j (y9 : Int64) v M (pm : Nat → Int32 × Nat), j ≤ n → n < w + j → v ≤ 1000 → YT n0 b T M → LyD 1 T.nc (m + j) pm s M → PsO T.nt T.nc pm → n ≤ 2 → ∃ y M', yoL n0 k94 w (nI c) x2 (nI n) (nI (T.nc * T.nt)) x5 y6 x8 y9 (nI v) (nI j) M = k94 (nI c) x2 (nI n) (nI (T.nc * T.nt)) x5 y (x8 + 1) M' ∧ YF (lP 1) M M'
  | 0, j, _, _, _, _, hj, hw, _, _, _, _, _ => by omega
  | w + 1, j, y9, v, M, pm, hj, hw, hv, hY, hL, hO, h2 => by
    show ∃ y M', bX12_odds_117 n0 k94 (yoL n0 k94 w) (nI c) x2 (nI n) (nI (T.nc * T.nt)) x5 y6 x8 y9 (nI v) (nI j) M = _ ∧ _
    obtain ⟨o1, o2, o3, _⟩ := hY.2.1
    have hl := hs.l
    have w30 : T.nc * T.nt ≤ 30 := Nat.le_trans (Nat.mul_le_mul o2 o1) (by decide)
    unfold bX12_odds_117
    by_cases g : j = n
    · subst g
      by_cases z : x2 = -1
      · exact ⟨_, M, eq_t (Int32.le_refl _) (eq_t z rfl), YF.r⟩
      · obtain ⟨_, M2, e1, e2⟩ := yhr hY (v := 1) (by decide) hL.1 hO (by omega) hc
        by_cases u : nI (T.hF c (pm c).1 (pm c).2 (m + j)) = x2
        · exact ⟨_, M2, eq_t (Int32.le_refl _) (eq_f z (eq_b e1 (eq_t u rfl))), e2.y⟩
        · exact ⟨_, M2, eq_t (Int32.le_refl _) (eq_f z (eq_b e1 (eq_f u rfl))), e2.y⟩
    · have g1 : nI (T.nc * T.nt) + 1 = nI (T.nc * T.nt + 1) := nI_add _ 1
      have gd : ¬ nI (T.nc * T.nt + 1) = 0 := nI_ne0 (by omega) (by omega)
      have er : rem32 (nI v) (nI (T.nc * T.nt + 1)) = nI (v % (T.nc * T.nt + 1)) := rem_nI (by omega) (by omega)
      have ed : nI v / nI (T.nc * T.nt + 1) = nI (v / (T.nc * T.nt + 1)) := nI_div (by omega) (by omega)
      have hdv : v / (T.nc * T.nt + 1) ≤ 1000 := Nat.le_trans (Nat.div_le_self _ _) hv
      have hrv : v % (T.nc * T.nt + 1) < T.nc * T.nt + 1 := Nat.mod_lt _ (by omega)
      obtain ⟨M1, a1, a2, a3⟩ := ytickD (v := 1) hn hY (by decide) hL hO hs (by omega)
      have j1 : nI j + 1 = nI (j + 1) := nI_add j 1
      have fin : ∀ M2 (pm2 : Nat → Int32 × Nat), LyD 1 T.nc (m + j + 1) pm2 s M2 → PsO T.nt T.nc pm2 → YF (lP 1) M M2 → ∃ y M', fX12_odds_182 n0 k94 (yoL n0 k94 w) (nI c) x2 (nI n) (nI (T.nc * T.nt)) x5 y6 x8 y9 (nI (v / (T.nc * T.nt + 1))) (nI j) (nI (v % (T.nc * T.nt + 1))) M2 = k94 (nI c) x2 (nI n) (nI (T.nc * T.nt)) x5 y (x8 + 1) M' ∧ YF (lP 1) M M' := fun M2 pm2 L2 O2 f2 => by
        have Y2 := hY.yf f2 lP28
        have o13 : ¬ oob (gI M2 13) 2 := by rw [Y2.2.2.2.1]; exact nI_in (by have := Y2.2.2.1; omega) (by decide)
        unfold fX12_odds_182 fX12_odds_220
        by_cases z : nI (T.nc * T.nt) ≤ nI (v % (T.nc * T.nt + 1))
        · obtain ⟨y, M', b1, b2⟩ := yo117 hn hc hs hm h0 w (j + 1) (y9 * ((((100 : Int32) - (gA M2 13 (Int32.toNatClampNeg (gI M2 13)))) * nI (T.nc * T.nt))).toInt64) (v / (T.nc * T.nt + 1)) M2 pm2 (by omega) (by omega) hdv Y2 L2 O2 h2
          exact ⟨y, M', eq_t z (eq_f o13 (by rw [j1]; exact b1)), f2.tr b2⟩
        · obtain ⟨y, M', b1, b2⟩ := yo117 hn hc hs hm h0 w (j + 1) (y9 * (gA M2 13 (Int32.toNatClampNeg (gI M2 13))).toInt64) (v / (T.nc * T.nt + 1)) M2 pm2 (by omega) (by omega) hdv Y2 L2 O2 h2
          exact ⟨y, M', eq_f z (eq_f o13 (by rw [j1]; exact b1)), f2.tr b2⟩
      have Y1 := hY.yf a3 lP28
      have o13 : ¬ oob (gI M1 13) 2 := by rw [Y1.2.2.2.1]; exact nI_in (by have := Y1.2.2.1; omega) (by decide)
      have nt1 : gA M1 2 (Int32.toNatClampNeg (gI M1 13)) = nI T.nt := by
        rw [Y1.2.2.2.1, nI_clamp (by have := Y1.2.2.1; omega)]; exact Y1.2.2.2.2.1
      have O1 : PsO T.nt T.nc (nxP T (m + j) pm) := fun c hc => tk_ok (hO c hc)
      rw [g1, er, ed]
      by_cases z : T.nc * T.nt ≤ v % (T.nc * T.nt + 1)
      · obtain ⟨y, M', b1, b2⟩ := fin M1 _ a2 O1 a3
        exact ⟨y, M', eq_f (nI_ge (by omega) (by omega)) (eq_f gd (eq_n (eq_f gd (eq_n (eq_b a1 (eq_t (nI_le z (by omega)) b1)))))), b2⟩
      · have q1 : v % (T.nc * T.nt + 1) / T.nt < T.nc := (Nat.div_lt_iff_lt_mul h0).mpr (by omega)
        have q2 : v % (T.nc * T.nt + 1) % T.nt < T.nt := Nat.mod_lt _ h0
        have ntn : ¬ nI T.nt = 0 := nI_ne0 (by omega) (by omega)
        obtain ⟨M2, c1, c2, c3⟩ := yput1 (n0 := n0) (t := nI (v % (T.nc * T.nt + 1) % T.nt)) a2 o2 q1
        obtain ⟨y, M', b1, b2⟩ := fin M2 _ c2 (upP_ok O1 ⟨Or.inr ⟨_, q2, rfl⟩, Nat.zero_le _⟩) (a3.tr c3)
        refine ⟨y, M', eq_f (nI_ge (by omega) (by omega)) (eq_f gd (eq_n (eq_f gd (eq_n (eq_b a1 (eq_f (nI_ge (by omega) (by omega)) (eq_f o13 (eq_f (by rw [nt1]; exact ntn) (eq_f o13 (eq_f (by rw [nt1]; exact ntn) (eq_b (z := M2) ?_ b1))))))))))), b2⟩
        rw [nt1, nI_div (by omega) (by omega), rem_nI (by omega) (by omega)]
        exact c1
theorem yodds {n0 q b : Nat} {T : TP} {nr C m : Nat} {pm : Nat → Int32 × Nat} {s : Nat × List (Nat × Nat)} {x y z : Int32} {MX MY : Mem} (hn : 1700 ≤ n0) (h : RR n0 q b T nr C m pm s MX MY) : okP (fX12_odds n0 x y z MY) (fun u => YF scP MY u.2) := by
  obtain ⟨h1, h2, h3, h4, _⟩ := id h
  obtain ⟨o1, o2, o3, _⟩ := h1.2.2.2.1.2.1
  have hm := h2.1
  have hl := h2.2.2.l
  have Y := h1.2.2.2.2.1
  have hb := Y.2.2.1
  have h13 := Y.2.2.2.1
  have o13 : ¬ oob (gI MY 13) 2 := by rw [h13]; exact nI_in (by omega) (by decide)
  have yq : gA MY 2 (gI MY 13).toNatClampNeg = nI T.nt := by rw [h13, nI_clamp (by omega)]; exact Y.2.2.2.2.1
  have yc : gA MY 5 (gI MY 13).toNatClampNeg = nI T.nc := by rw [h13, nI_clamp (by omega)]; exact Y.2.2.2.2.2.1
  have w30 : T.nc * T.nt ≤ 30 := Nat.le_trans (Nat.mul_le_mul o2 o1) (by decide)
  have e0 : ∀ {v : Int64}, okP (some (v, MY)) (fun u => YF scP MY u.2) := okP_some YF.r
  unfold fX12_odds
  rcases isCo h1 x with ⟨c, hc, rfl, _, e2⟩ | ⟨_, _, e2⟩
  · refine okP_be e2 (okP_f (show ¬ (1 : Int32) = 0 by decide) (okP_f o13 (okP_ite (fun _ => e0) (fun z0 => ?_))))
    have h0 : 0 < T.nt := Nat.pos_of_ne_zero (fun u => z0 (by show gA MY 2 _ = 0; rw [yq, u]; rfl))
    have ei : ∃ r, fX12_is n0 y (-1) 23 MY = some (r, MY) := by
      unfold fX12_is
      by_cases u : y < -1
      · exact ⟨_, eq_t u rfl⟩
      · by_cases u2 : (23 : Int32) < y
        · exact ⟨_, eq_f u (eq_t u2 rfl)⟩
        · exact ⟨_, eq_f u (eq_f u2 rfl)⟩
    obtain ⟨r, ei⟩ := ei
    refine okP_be ei (okP_ite (fun _ => e0) (fun _ => ?_))
    rcases yah (n0 := n0) (lo := 1) (hi := 2) z h4.1.1 hm (by decide) (by decide) with ⟨n, n1, n2, n3, rfl, e⟩ | ⟨_, e⟩
    · refine okP_be e (okP_f (show ¬ (1 : Int32) = 0 by decide) (okP_f o13 (okP_f o13 ?_)))
      have ew : gA MY 5 (Int32.toNatClampNeg (gI MY 13)) * gA MY 2 (Int32.toNatClampNeg (gI MY 13)) = nI (T.nc * T.nt) := by rw [yc, yq, nI_mul]
      have lp : ∀ W, W ≤ 1000 → okP (fX12_odds_86 n0 (nI c) y (nI n) (nI (T.nc * T.nt)) (nI W) MY) (fun u => YF scP MY u.2) := fun W hW => by
        unfold fX12_odds_86
        refine lpG (L := fun w k (u : Int64 × Mem) => loopN (bX12_odds_94 n0) (fun _ _ _ _ _ _ _ _ => none) w (nI c) y (nI n) (nI (T.nc * T.nt)) (nI W) u.1 (nI k) u.2) (n := W) (I := fun u => YF (lP 1) MY u.2) (fun w k u hk hu => Or.inr ?_) (fun w u hu => ?_) n0 0 (0, MY) (by omega) (by omega) YF.r
        · show ∃ s', bX12_odds_94 n0 (loopN (bX12_odds_94 n0) (fun _ _ _ _ _ _ _ _ => none) w) (nI c) y (nI n) (nI (T.nc * T.nt)) (nI W) u.1 (nI k) u.2 = _ ∧ _
          have L0 : LyD 0 T.nc m pm s u.2 := h4.fr hu o2 (by omega) (fun a i z y => by unfold lP tP dP at z; unfold lP tP dP at y; omega)
          obtain ⟨Y1, b1, b2, b3⟩ := ycopyD (n0 := n0) (v := 1) (u := 0) hn (by decide) (by decide) (by decide) o2 (by omega) L0
          obtain ⟨v', Y2, c1, c2⟩ := yo117 (n0 := n0) (x2 := y) (x5 := nI W) (x8 := nI k) (y6 := u.1) (k94 := loopN (bX12_odds_94 n0) (fun _ _ _ _ _ _ _ _ => none) w) hn hc h2.2.2 n3 h0 n0 0 1 k Y1 pm (by omega) (by omega) (by omega) (Y.yf (hu.tr b3) lP28) b2 h2.2.1 n2
          refine ⟨(v', Y2), ?_, (hu.tr b3).tr c2⟩
          unfold bX12_odds_94
          refine eq_f (nI_ge hk (by omega)) (eq_b b1 (Eq.trans c1 ?_))
          rw [show nI k + 1 = nI (k + 1) from nI_add k 1]
          rfl
        · show okP (bX12_odds_94 n0 (loopN (bX12_odds_94 n0) (fun _ _ _ _ _ _ _ _ => none) w) (nI c) y (nI n) (nI (T.nc * T.nt)) (nI W) u.1 (nI W) u.2) _
          unfold bX12_odds_94
          exact okP_t (Int32.le_refl _) (okP_some (lsc hu))
      show okP (if nI n = 1 then fX12_odds_86 n0 (nI c) y (nI n) (gA MY 5 (Int32.toNatClampNeg (gI MY 13)) * gA MY 2 (Int32.toNatClampNeg (gI MY 13))) (gA MY 5 (Int32.toNatClampNeg (gI MY 13)) * gA MY 2 (Int32.toNatClampNeg (gI MY 13)) + 1) MY else fX12_odds_86 n0 (nI c) y (nI n) (gA MY 5 (Int32.toNatClampNeg (gI MY 13)) * gA MY 2 (Int32.toNatClampNeg (gI MY 13))) ((gA MY 5 (Int32.toNatClampNeg (gI MY 13)) * gA MY 2 (Int32.toNatClampNeg (gI MY 13)) + 1) * (gA MY 5 (Int32.toNatClampNeg (gI MY 13)) * gA MY 2 (Int32.toNatClampNeg (gI MY 13)) + 1)) MY) _
      rw [ew, show nI (T.nc * T.nt) + 1 = nI (T.nc * T.nt + 1) from nI_add _ 1, nI_mul]
      exact okP_ite (fun _ => lp _ (by omega)) (fun _ => lp _ (Nat.le_trans (Nat.mul_le_mul (show T.nc * T.nt + 1 ≤ 31 by omega) (show T.nc * T.nt + 1 ≤ 31 by omega)) (by decide)))
    · exact okP_be e (okP_t rfl e0)
  · exact okP_be e2 (okP_t rfl e0)
theorem nOdds {n0 : Nat} {x y z : Int32} {MX MY : Mem} (hn : 1700 ≤ n0) (h : R n0 MX MY) : CalL n0 (fX11_odds n0 x y z MX) (fX12_odds n0 x y z MY) := by
  obtain ⟨q, b, T, nr, C, m, pm, s, h⟩ := h
  exact CalL.scr h (xodds hn h) (yodds hn h)
