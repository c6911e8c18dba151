/-! DOINGS DONE AND KEPT: bits, rows -/
theorem bt_has : ∀ D, D < 64 → ∀ d, d < 6 → ((((nI D) >>> ((nI d) &&& 31)) &&& (1 : Int32) = 1) ↔ D / 2 ^ d % 2 = 1) := by decide +kernel
theorem bt_or : ∀ D, D < 64 → ∀ d, d < 6 → D / 2 ^ d % 2 = 0 → (nI D) ||| ((1 : Int32) <<< ((nI d) &&& 31)) = nI (D + 2 ^ d) := by decide +kernel
theorem bt_lt : ∀ n, n < 7 → ∀ D, D < 2 ^ n → ∀ d, d < n → D / 2 ^ d % 2 = 0 → D + 2 ^ d < 2 ^ n := by decide +kernel
def pc (D : Nat) : Nat := D % 2 + D / 2 % 2 + D / 4 % 2 + D / 8 % 2 + D / 16 % 2 + D / 32 % 2
theorem pc_le (D : Nat) : pc D ≤ 6 := by unfold pc; omega
theorem bt_pc : ∀ D, D < 64 → ∀ d, d < 6 → D / 2 ^ d % 2 = 0 → pc (D + 2 ^ d) = pc D + 1 := by decide +kernel
theorem bt_at : ∀ D, D < 64 → ∀ d, d < 6 → D / 2 ^ d % 2 = 0 → ∀ e, e < 6 → (D + 2 ^ d) / 2 ^ e % 2 = if e = d then 1 else D / 2 ^ e % 2 := by decide +kernel
theorem p64 {n : Nat} (h : n ≤ 6) : 2 ^ n ≤ 64 := Nat.pow_le_pow_right (n := 2) (by decide) h
theorem yhas2 {n0 D d : Nat} {M : Mem} (hD : D < 64) (hd : d < 6) : fX12_has2 n0 (nI D) (nI d) M = some (bI (D / 2 ^ d % 2 = 1), M) := by
  unfold fX12_has2
  by_cases g : D / 2 ^ d % 2 = 1
  · rw [bI_t g]; exact eq_t ((bt_has D hD d hd).mpr g) rfl
  · rw [bI_f g]; exact eq_f (fun z => g ((bt_has D hD d hd).mp z)) rfl
/-- what is due is done: bits and what is kept, doing by doing -/
def fnS (du : Nat → Bool) (m : Nat) (s : Nat × List (Nat × Nat)) : Nat → Nat × List (Nat × Nat)
  | 0 => s
  | d + 1 => if (fnS du m s d).1 / 2 ^ d % 2 = 0 ∧ du d = true then ((fnS du m s d).1 + 2 ^ d, (fnS du m s d).2 ++ [(m, d)]) else fnS du m s d
def sOk (nd : Nat) (s : Nat × List (Nat × Nat)) : Prop := s.1 < 2 ^ nd ∧ s.2.length ≤ pc s.1
theorem fnS_ok {du : Nat → Bool} {m nd : Nat} {s : Nat × List (Nat × Nat)} (hn : nd ≤ 6) (h : sOk nd s) : ∀ d, d ≤ nd → sOk nd (fnS du m s d)
  | 0, _ => h
  | d + 1, hd => by
    have ih := fnS_ok hn h d (by omega) (du := du) (m := m)
    have := p64 hn
    show sOk nd (if _ then _ else _)
    by_cases g : (fnS du m s d).1 / 2 ^ d % 2 = 0 ∧ du d = true
    · rw [if_pos g]
      refine ⟨bt_lt nd (by omega) _ ih.1 d (by omega) g.1, ?_⟩
      show ((fnS du m s d).2 ++ [(m, d)]).length ≤ pc ((fnS du m s d).1 + 2 ^ d)
      have h1 := ih.1
      have h2 := ih.2
      rw [List.length_append, bt_pc _ (by omega) d (by omega) g.1]
      show _ + 1 ≤ _
      omega
    · rw [if_neg g]; exact ih
theorem fnS_len {du : Nat → Bool} {m : Nat} {s : Nat × List (Nat × Nat)} : ∀ d, s.2.length ≤ (fnS du m s d).2.length
  | 0 => Nat.le_refl _
  | d + 1 => by
    have ih := fnS_len (du := du) (m := m) (s := s) d
    show _ ≤ (if _ then _ else _ : Nat × List (Nat × Nat)).2.length
    by_cases g : (fnS du m s d).1 / 2 ^ d % 2 = 0 ∧ du d = true
    · rw [if_pos g]
      show _ ≤ ((fnS du m s d).2 ++ [(m, d)]).length
      rw [List.length_append]
      omega
    · rw [if_neg g]; exact ih
theorem fnS_pre {du : Nat → Bool} {m : Nat} {s : Nat × List (Nat × Nat)} : ∀ d, ∃ K, (fnS du m s d).2 = s.2 ++ K
  | 0 => ⟨[], (List.append_nil _).symm⟩
  | d + 1 => by
    obtain ⟨K, ih⟩ := fnS_pre (du := du) (m := m) (s := s) d
    have e : fnS du m s (d + 1) = if (fnS du m s d).1 / 2 ^ d % 2 = 0 ∧ du d = true then ((fnS du m s d).1 + 2 ^ d, (fnS du m s d).2 ++ [(m, d)]) else fnS du m s d := rfl
    rw [e]
    by_cases g : (fnS du m s d).1 / 2 ^ d % 2 = 0 ∧ du d = true
    · rw [if_pos g]
      exact ⟨K ++ [(m, d)], by show (fnS du m s d).2 ++ [(m, d)] = _; rw [ih, List.append_assoc]⟩
    · rw [if_neg g]; exact ⟨K, ih⟩
/-- what a layer keeps -/
def KpY (v : Nat) (K : List (Nat × Nat)) (M : Mem) : Prop := gA M 32 v = nI K.length ∧ ∀ i p, K[i]? = some p → gA M 33 (80 * v + 2 * i) = nI p.1 ∧ gA M 33 (80 * v + 2 * i + 1) = nI p.2
theorem ap_at {K : List (Nat × Nat)} {x p : Nat × Nat} {i : Nat} (h : (K ++ [x])[i]? = some p) : (i < K.length ∧ K[i]? = some p) ∨ (i = K.length ∧ p = x) := by
  rcases Nat.lt_or_ge i K.length with g | g
  · rw [List.getElem?_append_left g] at h
    exact Or.inl ⟨g, h⟩
  · rw [List.getElem?_append_right g] at h
    have hi : i - K.length = 0 := by
      rcases Nat.eq_zero_or_pos (i - K.length) with z | z
      · exact z
      · rw [List.getElem?_eq_none (by show 1 ≤ _; omega)] at h
        cases h
    rw [hi] at h
    exact Or.inr ⟨by omega, (Option.some.inj h).symm⟩
theorem K_lt {K : List (Nat × Nat)} {p : Nat × Nat} {i : Nat} (h : K[i]? = some p) : i < K.length := (List.getElem?_eq_some_iff.mp h).1
theorem ywrites {n0 v m d : Nat} {K : List (Nat × Nat)} {M : Mem} (hv : v < 22) (hK : KpY v K M) (hl : K.length < 40) (h28 : gA M 28 v = nI m) : ∃ M', fX12_writesDown n0 (nI v) (nI d) M = some M' ∧ KpY v (K ++ [(m, d)]) M' ∧ gA M' 31 v = gA M 31 v ∧ YF (dP v) M M' := by
  have cv : (nI v).toNatClampNeg = v := nI_clamp (by omega)
  have ov : ¬ oob (nI v) 22 := nI_in hv (by decide)
  have ix : (2 : Int32) * ((40 : Int32) * nI v + nI K.length) = nI (80 * v + 2 * K.length) := by
    rw [show (40 : Int32) = nI 40 from rfl, nI_mul, nI_add, show (2 : Int32) = nI 2 from rfl, nI_mul]
    congr 1
    omega
  have cx : (nI (80 * v + 2 * K.length)).toNatClampNeg = 80 * v + 2 * K.length := nI_clamp (by omega)
  have cy : (nI (80 * v + 2 * K.length + 1)).toNatClampNeg = 80 * v + 2 * K.length + 1 := nI_clamp (by omega)
  have a1 : nI (80 * v + 2 * K.length) + 1 = nI (80 * v + 2 * K.length + 1) := nI_add _ 1
  have k1 : nI K.length + 1 = nI (K.length + 1) := nI_add _ 1
  refine ⟨sA (sA (sA M 33 (80 * v + 2 * K.length) (nI m)) 33 (80 * v + 2 * K.length + 1) (nI d)) 32 v (nI (K.length + 1)), ?_, ⟨?_, fun i p h => ?_⟩, ?_, ?_⟩
  · unfold fX12_writesDown
    refine eq_f ov (eq_f ?_ ?_)
    · rw [cv, hK.1]
      exact fun z => by have := (nI_eq (a := K.length) (b := 40) (by omega) (by decide)).mp z; omega
    · unfold fX12_writesDown_59
      simp only [cv, hK.1, ix, h28, bnd, cx, a1, cy]
      refine eq_f ov (eq_f ov (eq_f (nI_in (by omega) (by decide)) (eq_f (nI_in (by omega) (by decide)) (eq_f ov (eq_f ov ?_)))))
      rw [gA_sA_ne (by decide), gA_sA_ne (by decide), hK.1, k1]
  · rw [gA_sA, if_pos rfl, if_pos rfl, List.length_append]
    rfl
  · rw [gA_sA_ne (by decide), gA_sA, if_pos rfl, gA_sA, if_pos rfl, gA_sA, if_pos rfl, gA_sA, if_pos rfl]
    rcases ap_at h with ⟨g, h⟩ | ⟨rfl, rfl⟩
    · rw [if_neg (by omega), if_neg (by omega), if_neg (by omega), if_neg (by omega)]
      exact hK.2 i p h
    · rw [if_neg (by omega), if_pos rfl, if_pos rfl]
      exact ⟨rfl, rfl⟩
  · rw [gA_sA_ne (by decide), gA_sA_ne (by decide), gA_sA_ne (by decide)]
  · exact ((YF.r.a (by unfold dP; omega)).a (by unfold dP; omega)).a (by unfold dP; omega)
def due (T : TP) (pm : Nat → Int32 × Nat) (m : Nat) : Nat → Bool := fun d => decide (T.hF (T.dc d) (pm (T.dc d)).1 (pm (T.dc d)).2 m = T.dh d)
abbrev fdL (n0 : Nat) : Nat → Int32 → Int32 → Int32 → Mem → Option (Int32 × Mem) := loopN (bX12_finishesDoings_4 n0) (fun _ _ _ _ => none)
theorem KpY.fr {v : Nat} {K : List (Nat × Nat)} {P : Nat → Nat → Prop} {M M' : Mem} (h : KpY v K M) (f : YF P M M') (hl : K.length ≤ 40) (hP : ∀ a i, P a i → ¬ dP v a i) : KpY v K M' := ⟨(f.2.2.2.1 32 v (by decide) (fun z => hP _ _ z (by unfold dP; omega))).trans h.1, fun i p g => by
  have := K_lt g
  rw [f.2.2.2.1 33 _ (by decide) (fun z => hP _ _ z (by unfold dP; omega)), f.2.2.2.1 33 _ (by decide) (fun z => hP _ _ z (by unfold dP; omega))]
  exact h.2 i p g⟩
theorem yfd {n0 b v m : Nat} {T : TP} {pm : Nat → Int32 × Nat} {s : Nat × List (Nat × Nat)} (hv : v < 22) (hO : PsO T.nt T.nc pm) (hm : m ≤ 20000) (hs : sOk T.nd s) :
    ∀ w d M, d ≤ T.nd → T.nd < w + d → YT n0 b T M → Ly v T.nc m pm M → gA M 31 v = nI (fnS (due T pm m) m s d).1 → KpY v (fnS (due T pm m) m s d).2 M →
    ∃ M', fdL n0 w (nI v) (nI ((fnS (due T pm m) m s d).2.length - s.2.length)) (nI d) M = some (nI ((fnS (due T pm m) m s T.nd).2.length - s.2.length), M') ∧ gA M' 31 v = nI (fnS (due T pm m) m s T.nd).1 ∧ KpY v (fnS (due T pm m) m s T.nd).2 M' ∧ YF (dP v) M M'
  | 0, d, M, hd, hw, _, _, _, _ => by omega
  | w + 1, d, M, hd, hw, hT, hL, hD, hK => by
    show ∃ M', bX12_finishesDoings_4 n0 (fdL n0 w) (nI v) _ (nI d) M = _ ∧ _
    have hok := hT.2.1
    have h6 := hok.2.2.1
    have h5 := hok.2.1
    have hb := hT.2.2.1
    have h13 := hT.2.2.2.1
    have cb : (nI b).toNatClampNeg = b := nI_clamp (by omega)
    have cv : (nI v).toNatClampNeg = v := nI_clamp (by omega)
    have ov : ¬ oob (nI v) 22 := nI_in hv (by decide)
    have q10 : gA M 10 (gI M 13).toNatClampNeg = nI T.nd := by rw [h13, cb]; exact hT.2.2.2.2.2.2.1
    have o13 : ¬ oob (gI M 13) 2 := by rw [h13]; exact nI_in (by omega) (by decide)
    have sok := fnS_ok (du := due T pm m) (m := m) h6 hs d (by omega)
    have s64 : (fnS (due T pm m) m s d).1 < 64 := Nat.lt_of_lt_of_le sok.1 (p64 h6)
    have slen := sok.2
    have pcl := pc_le (fnS (due T pm m) m s d).1
    have s0 := fnS_len (du := due T pm m) (m := m) (s := s) d
    by_cases g : d = T.nd
    · subst g
      refine ⟨M, ?_, hD, hK, YF.r⟩
      unfold bX12_finishesDoings_4
      exact eq_f o13 (eq_t (by rw [q10]; exact Int32.le_refl _) rfl)
    · have hdn : d < T.nd := by omega
      obtain ⟨dc1, dc2⟩ := hok.2.2.2 d hdn
      have ld := hT.2.2.2.2.2.2.2 d hdn
      have c6 : (nI (6 * b + d)).toNatClampNeg = 6 * b + d := nI_clamp (by omega)
      have o6 : ¬ oob (nI (6 * b + d)) 12 := nI_in (by omega) (by decide)
      have d1 : nI d + 1 = nI (d + 1) := nI_add d 1
      -- head of the step
      have hd0 : ∀ r, (if bI ((fnS (due T pm m) m s d).1 / 2 ^ d % 2 = 1) = 0 then
          (fX12_hour n0 (nI v) (nI (T.dc d)) M).bind fun z46 =>
          if oob (((6 : Int32) * (gI z46.2 13)) + nI d) 12 then none else
          if z46.1 = (gA z46.2 12 (Int32.toNatClampNeg (((6 : Int32) * (gI z46.2 13)) + nI d))) then
            if oob (nI v) 22 then none else
            if oob (nI v) 22 then none else
            bnd (sA z46.2 31 (Int32.toNatClampNeg (nI v)) ((gA z46.2 31 (Int32.toNatClampNeg (nI v))) ||| ((1 : Int32) <<< (nI d &&& 31)))) fun M80 =>
            (fX12_writesDown n0 (nI v) (nI d) M80).bind fun z84 =>
            fX12_finishesDoings_90 n0 (fdL n0 w) (nI v) (nI ((fnS (due T pm m) m s d).2.length - s.2.length) + (1 : Int32)) (nI d) z84
          else
            fX12_finishesDoings_90 n0 (fdL n0 w) (nI v) (nI ((fnS (due T pm m) m s d).2.length - s.2.length)) (nI d) z46.2
        else
          fX12_finishesDoings_90 n0 (fdL n0 w) (nI v) (nI ((fnS (due T pm m) m s d).2.length - s.2.length)) (nI d) M) = r → bX12_finishesDoings_4 n0 (fdL n0 w) (nI v) (nI ((fnS (due T pm m) m s d).2.length - s.2.length)) (nI d) M = r := fun r hr => by
        unfold bX12_finishesDoings_4
        refine eq_f o13 (eq_f (by rw [q10]; exact nI_ge hdn (by omega)) (eq_f ov (eq_b (z := (bI ((fnS (due T pm m) m s d).1 / 2 ^ d % 2 = 1), M)) (by rw [cv, hD]; exact yhas2 s64 (by omega)) ?_)))
        refine Eq.trans ?_ hr
        by_cases g0 : bI ((fnS (due T pm m) m s d).1 / 2 ^ d % 2 = 1) = 0
        · rw [if_pos g0, if_pos g0]
          refine eq_f (by show ¬ oob ((6 : Int32) * gI M 13 + nI d) 12; rw [h13, y6Ix]; exact o6) ?_
          show Option.bind (fX12_hour n0 (nI v) (gA M 11 ((6 : Int32) * gI M 13 + nI d).toNatClampNeg) M) _ = _
          rw [h13, y6Ix, c6, ld.1]
        · rw [if_neg g0, if_neg g0]
      have nb : ¬ (fnS (due T pm m) m s d).1 / 2 ^ d % 2 = 1 ↔ (fnS (due T pm m) m s d).1 / 2 ^ d % 2 = 0 := by omega
      have dn : fnS (due T pm m) m s (d + 1) = if (fnS (due T pm m) m s d).1 / 2 ^ d % 2 = 0 ∧ due T pm m d = true then ((fnS (due T pm m) m s d).1 + 2 ^ d, (fnS (due T pm m) m s d).2 ++ [(m, d)]) else fnS (due T pm m) m s d := rfl
      by_cases g0 : (fnS (due T pm m) m s d).1 / 2 ^ d % 2 = 1
      · have eS : fnS (due T pm m) m s (d + 1) = fnS (due T pm m) m s d := by rw [dn, if_neg (fun z => by omega)]
        obtain ⟨M', r1, r2, r3, r4⟩ := yfd hv hO hm hs w (d + 1) M (by omega) (by omega) hT hL (by rw [eS]; exact hD) (by rw [eS]; exact hK)
        rw [eS] at r1
        refine ⟨M', hd0 _ (eq_f (by rw [bI_t g0]; decide) ?_), r2, r3, r4⟩
        unfold fX12_finishesDoings_90
        rw [d1]
        exact r1
      · have g00 := nb.mp g0
        obtain ⟨_, M1, e1, e2⟩ := yhr hT hv hL hO hm dc1
        have f1 : YF (dP v) M M1 := e2.y
        have i13 : gI M1 13 = nI b := (congrFun e2.2.2.1 13).trans h13
        have T1 := hT.yf f1 dP28
        have L1 : Ly v T.nc m pm M1 := hL.fr (P := fun _ _ => False) e2.y h5 (fun _ _ z => z.elim)
        have D1 : gA M1 31 v = nI (fnS (due T pm m) m s d).1 := by rw [e2.2.2.2.1 31 (by decide)]; exact hD
        have K1 : KpY v (fnS (due T pm m) m s d).2 M1 := hK.fr (P := fun _ _ => False) e2.y (by omega) (fun _ _ z => z.elim)
        have q12 : gA M1 12 ((6 : Int32) * gI M1 13 + nI d).toNatClampNeg = nI (T.dh d) := by rw [i13, y6Ix, c6, e2.2.2.2.1 12 (by decide)]; exact ld.2
        have oo : ¬ oob ((6 : Int32) * gI M1 13 + nI d) 12 := by rw [i13, y6Ix]; exact o6
        have hh := (hT.1 M v (T.dc d) (pm (T.dc d)).1 (pm (T.dc d)).2 m yTw.r (hL.pm h13 hv dc1) ⟨by omega, (hO _ dc1).1, (hO _ dc1).2, hm⟩).1
        by_cases gd : T.hF (T.dc d) (pm (T.dc d)).1 (pm (T.dc d)).2 m = T.dh d
        · have eS : fnS (due T pm m) m s (d + 1) = ((fnS (due T pm m) m s d).1 + 2 ^ d, (fnS (due T pm m) m s d).2 ++ [(m, d)]) := by rw [dn, if_pos ⟨g00, by unfold due; exact decide_eq_true gd⟩]
          have f2 : YF (dP v) M1 (sA M1 31 v (nI ((fnS (due T pm m) m s d).1 + 2 ^ d))) := YF.r.a (by unfold dP; omega)
          have K2 : KpY v (fnS (due T pm m) m s d).2 (sA M1 31 v (nI ((fnS (due T pm m) m s d).1 + 2 ^ d))) := ⟨by rw [gA_sA_ne (by decide)]; exact K1.1, fun i p z => by rw [gA_sA_ne (by decide)]; exact K1.2 i p z⟩
          obtain ⟨M3, u1, u2, u3, u4⟩ := ywrites (n0 := n0) (d := d) hv K2 (by omega) (m := m) (by rw [gA_sA_ne (by decide)]; exact L1.1)
          have f3 := f2.tr u4
          have T3 := T1.yf f3 dP28
          have L3 : Ly v T.nc m pm M3 := L1.fr f3 h5 (fun a i z y => by unfold dP at z; unfold tP at y; omega)
          obtain ⟨M', r1, r2, r3, r4⟩ := yfd hv hO hm hs w (d + 1) M3 (by omega) (by omega) T3 L3 (by rw [eS, u3, gA_sA, if_pos rfl, if_pos rfl]) (by rw [eS]; exact u2)
          refine ⟨M', hd0 _ (eq_t (by rw [bI_f g0]) (eq_b e1 (eq_f oo (eq_t (by rw [q12]; exact congrArg nI gd) (eq_f ov (eq_f ov (eq_e (v' := sA M1 31 v (nI ((fnS (due T pm m) m s d).1 + 2 ^ d))) ?_ (eq_b u1 ?_)))))))), r2, r3, f1.tr (f3.tr r4)⟩
          · show sA M1 31 (nI v).toNatClampNeg (gA M1 31 (nI v).toNatClampNeg ||| _) = _
            rw [cv, D1, bt_or _ s64 d (by omega) g00]
          · unfold fX12_finishesDoings_90
            rw [d1, show nI ((fnS (due T pm m) m s d).2.length - s.2.length) + 1 = nI ((fnS (due T pm m) m s (d + 1)).2.length - s.2.length) by
              rw [show nI ((fnS (due T pm m) m s d).2.length - s.2.length) + 1 = nI ((fnS (due T pm m) m s d).2.length - s.2.length + 1) from nI_add _ 1, eS]
              congr 1
              show _ = ((fnS (due T pm m) m s d).2 ++ [(m, d)]).length - _
              rw [List.length_append]
              show _ = _ + 1 - _
              omega]
            exact r1
        · have eS : fnS (due T pm m) m s (d + 1) = fnS (due T pm m) m s d := by rw [dn, if_neg (fun z => gd (of_decide_eq_true z.2))]
          obtain ⟨M', r1, r2, r3, r4⟩ := yfd hv hO hm hs w (d + 1) M1 (by omega) (by omega) T1 L1 (by rw [eS]; exact D1) (by rw [eS]; exact K1)
          rw [eS] at r1
          refine ⟨M', hd0 _ (eq_t (by rw [bI_f g0]) (eq_b e1 (eq_f oo (eq_f (by rw [q12]; exact fun z => gd ((nI_eq (by omega) (by omega)).mp z)) ?_)))), r2, r3, f1.tr r4⟩
          unfold fX12_finishesDoings_90
          rw [d1]
          exact r1
theorem yfin {n0 b v m : Nat} {T : TP} {pm : Nat → Int32 × Nat} {s : Nat × List (Nat × Nat)} {M : Mem} (hn : 1700 ≤ n0) (hT : YT n0 b T M) (hv : v < 22) (hL : Ly v T.nc m pm M) (hO : PsO T.nt T.nc pm) (hm : m ≤ 20000) (hs : sOk T.nd s) (hD : gA M 31 v = nI s.1) (hK : KpY v s.2 M) :
    ∃ M', fX12_finishesDoings n0 (nI v) M = some (nI ((fnS (due T pm m) m s T.nd).2.length - s.2.length), M') ∧ gA M' 31 v = nI (fnS (due T pm m) m s T.nd).1 ∧ KpY v (fnS (due T pm m) m s T.nd).2 M' ∧ YF (dP v) M M' := by
  have h6 := hT.2.1.2.2.1
  obtain ⟨M', e⟩ := yfd hv hO hm hs n0 0 M (by omega) (by omega) hT hL hD hK
  refine ⟨M', ?_, e.2⟩
  have e1 := e.1
  rw [show (fnS (due T pm m) m s 0).2.length - s.2.length = 0 from Nat.sub_self _] at e1
  exact e1
