/-! ACTS: undo, minutes, give, take, chance -/
theorem xback {n0 p : Nat} {M : Mem} (hl : LX.ln p = 18) (hp : 63 ≤ p) : ∃ M', fX6_bringBack n0 p M = some M' ∧ gI M' 1281 = gA M p 0 ∧ gI M' 1285 = gA M p 1 ∧ (∀ c, c < 5 → gA M' 11 c = gA M p (2 + c) ∧ gA M' 12 c = gA M p (7 + c)) ∧ (∀ d, d < 6 → gA M' 13 d = gA M p (12 + d)) ∧ gR M' = gR M ∧ gL M' = gL M ∧ gB M' = gB M ∧ (∀ k, ¬ (k = 1281 ∨ k = 1285) → gI M' k = gI M k) ∧ ∀ a, ¬ (a = 11 ∨ a = 12 ∨ a = 13) → gA M' a = gA M a := by
  have so : ∀ (N : Mem) (f : Nat → Int32) (a r : Nat), ¬ a = r → gA (sF N r f) a = gA N a := fun N f a r z => by
    funext j
    rw [gA_sF, if_neg z]
  have sp : ∀ (N : Mem) (f : Nat → Int32) (r : Nat), gA (sF N r f) r = f := fun N f r => by
    funext j
    rw [gA_sF, if_pos rfl]
  have hM2 : ∃ M2, M2 = sI (sI M 1281 (gA M p 0)) 1285 (gA M p 1) := ⟨_, rfl⟩
  obtain ⟨M2, e2⟩ := hM2
  have hM3 : ∃ M3, M3 = sF M2 11 (va_cpy (gA M2 p) (gA M2 11) 2 0 5) := ⟨_, rfl⟩
  obtain ⟨M3, e3⟩ := hM3
  have hM4 : ∃ M4, M4 = sF M3 12 (va_cpy (gA M3 p) (gA M3 12) 7 0 5) := ⟨_, rfl⟩
  obtain ⟨M4, e4⟩ := hM4
  have hM5 : ∃ M5, M5 = sF M4 13 (va_cpy (gA M4 p) (gA M4 13) 12 0 6) := ⟨_, rfl⟩
  obtain ⟨M5, e5⟩ := hM5
  have vo : gA M2 = gA M := by rw [e2]; rfl
  have p3 : gA M3 p = gA M p := by rw [e3, so _ _ p 11 (by omega), vo]
  have p4 : gA M4 p = gA M p := by rw [e4, so _ _ p 12 (by omega), p3]
  refine ⟨M5, ?_, ?_, ?_, fun c hc => ⟨?_, ?_⟩, fun d hd => ?_, ?_, ?_, ?_, fun k z => ?_, fun a z => ?_⟩
  · unfold fX6_bringBack
    refine eq_t (by rw [hl]; decide) (eq_f (by rw [hl]; decide) (eq_n (eq_f (by rw [hl]; decide) (eq_e (v' := M2) (by rw [e2]; rfl) (eq_f (by rw [hl]; decide) (eq_e (v' := M3) (by rw [e3]; rfl) (eq_f (by rw [hl]; decide) (eq_e (v' := M4) (by rw [e4]; rfl) (eq_f (by rw [hl]; decide) ?_)))))))))
    rw [e5]
    rfl
  · rw [e5, e4, e3, e2]; rfl
  · rw [e5, e4, e3, e2]; rfl
  · rw [e5, so _ _ 11 13 (by decide), e4, so _ _ 11 12 (by decide), e3, sp, vo]; unfold va_cpy; rw [if_pos (by omega)]; congr 1
  · rw [e5, so _ _ 12 13 (by decide), e4, sp, p3]; unfold va_cpy; rw [if_pos (by omega)]; congr 1
  · rw [e5, sp, p4]; unfold va_cpy; rw [if_pos (by omega)]; congr 1
  · rw [e5, e4, e3, e2]; rfl
  · rw [e5, e4, e3, e2]; rfl
  · rw [e5, e4, e3, e2]; rfl
  · rw [e5, e4, e3, e2]
    show gI (sI (sI M 1281 _) 1285 _) k = _
    rw [gI_ne (by omega), gI_ne (by omega)]
  · rw [e5, so _ _ a 13 (by omega), e4, so _ _ a 12 (by omega), e3, so _ _ a 11 (by omega), vo]
theorem cUndo {n0 : Nat} {MX MY : Mem} (hn : 1700 ≤ n0) (h : R n0 MX MY) : Cal n0 (fX11_undo n0 MX) (fX12_undo n0 MY) := by
  have h0 := h
  obtain ⟨q, b, T, nr, C, m, pm, s, h⟩ := h
  obtain ⟨h1, h2, h3, h4, ⟨x0, f, u, e, a1, a2, a3, a4, a5, a6, a7, a8, a9⟩, h6, h7⟩ := h
  have hok := h1.2.2.2.1.2.1
  have hl := h2.2.2.l
  by_cases g : u = 0
  · subst g
    refine Cal.ref (k := 4) (r := 0) h0 (by decide) ?_ ?_
    · unfold fX11_undo
      refine eq_b (z := (0, MX)) ?_ (eq_t rfl (eq_b (xref (k := 4) (by decide)) rfl))
      unfold fX2_bringBack
      exact eq_f (by rw [a5]; decide) rfl
    · unfold fX12_undo
      exact eq_t (by rw [a7]; rfl) (eq_b (yref (k := 4) (by decide)) (eq_t (show (-1 : Int32) < 0 by decide) rfl))
  · obtain ⟨v, rfl⟩ : ∃ v, u = v + 1 := ⟨u - 1, by omega⟩
    obtain ⟨o1, o2, o3, o4, o5, o6⟩ := a8 v (by omega)
    have ol := o3.l
    -- the class
    have hp : (x0 + v) % 20 < 20 := by omega
    have hX1 : ∃ X1, X1 = sI (sI MX 2049 (nI ((x0 + v) % 20))) 2050 (nI v) := ⟨_, rfl⟩
    obtain ⟨X1, eX⟩ := hX1
    obtain ⟨X2, b1, b2, b3, b4, b5, b6, b7, b8, b9, b10⟩ := xback (n0 := n0) (M := X1) (ln63 _ hp) (by omega)
    have xA : gA X1 = gA MX := by rw [eX]; rfl
    have xR : gR X1 = gR MX := by rw [eX]; rfl
    have xI : ∀ k, ¬ (k = 2049 ∨ k = 2050) → gI X1 k = gI MX k := fun k z => by rw [eX, gI_ne (by omega), gI_ne (by omega)]
    have x1 : fX11_undo n0 MX = some (1, X2) := by
      unfold fX11_undo
      refine eq_b (z := (1, X2)) ?_ (eq_f (show ¬ (1 : Int32) = 0 by decide) rfl)
      unfold fX2_bringBack
      refine eq_t (by rw [a5]; exact nI_lt (a := 0) (by omega) (by omega)) (eq_f (by decide) (eq_e (v' := sI MX 2049 (nI ((x0 + v) % 20))) ?_ (eq_e (v' := X1) ?_ (eq_f ?_ (eq_b (z := X2) ?_ rfl)))))
      · rw [a4, show nI ((x0 + (v + 1)) % 20) + 20 = nI ((x0 + (v + 1)) % 20 + 20) from nI_add _ 20, show nI ((x0 + (v + 1)) % 20 + 20) - 1 = nI ((x0 + (v + 1)) % 20 + 19) from nIs _, show (20 : Int32) = nI 20 from rfl, rem_nI (by omega) (by decide)]
        congr 2
        omega
      · rw [eX, gI_ne (by decide), a5, nIs]
      · rw [eX, gI_ne (by decide), gI_at]
        exact nI_in hp (by decide)
      · rw [show gI X1 2049 = nI ((x0 + v) % 20) by rw [eX, gI_ne (by decide), gI_at], nI_clamp (by omega)]
        exact b1
    -- the reference
    have hY1 : ∃ Y1, Y1 = sI MY 54 (nI v) := ⟨_, rfl⟩
    obtain ⟨Y1, eY⟩ := hY1
    obtain ⟨Y2, c1, c2, c3⟩ := ycopyD (n0 := n0) (v := 0) (u := 2 + (f + v) % 20) (M := Y1) hn (by decide) (by omega) (by omega) hok.2.1 (by omega) (o6.cg hok.2.1 (by omega) (fun a i _ => by rw [eY]; rfl))
    have y1 : fX12_undo n0 MY = some (1, Y2) := by
      unfold fX12_undo
      refine eq_f (by rw [a7]; exact nI_ne0 (by omega) (by omega)) (eq_e (v' := Y1) (by rw [eY, a7, nIs]) (eq_b (z := (nI (2 + (f + v) % 20), Y1)) ?_ (eq_b c1 rfl)))
      rw [show gI Y1 54 = nI v by rw [eY, gI_at]]
      exact yslot a2 (by omega) (by rw [eY, gI_ne (by decide)]; exact a6)
    have yI : ∀ k, ¬ k = 54 → gI Y2 k = gI MY k := fun k z => by rw [c3.2.2.1, eY, gI_ne z]
    have yA : ∀ a i, ¬ a = 35 → ¬ lP 0 a i → gA Y2 a i = gA MY a i := fun a i z1 z2 => (c3.2.2.2.1 a i z1 z2).trans (by rw [eY]; rfl)
    have yA2 : ∀ a, ¬ (28 ≤ a ∧ a ≤ 33) → ¬ a = 35 → gA Y2 a = gA MY a := fun a z1 z2 => by
      funext i
      exact yA a i z2 (fun z => by unfold lP tP dP at z; omega)
    have xA2 : ∀ a, ¬ (a = 11 ∨ a = 12 ∨ a = 13) → gA X2 a = gA MX a := fun a z => (b10 a z).trans (by rw [xA])
    have xI2 : ∀ k, ¬ (k = 2049 ∨ k = 2050 ∨ k = 1281 ∨ k = 1285) → gI X2 k = gI MX k := fun k z => (b9 k (by omega)).trans (xI k (by omega))
    refine ⟨1, X2, Y2, x1, y1, q, b, T, nr, C, (e v).1, (e v).2.1, ((e v).2.2.1, s.2.take (e v).2.2.2), h1.cgs (b6.trans xR) (fun k z => xI2 k (by omega)) (fun a z1 z2 => xA2 a (by omega)) (yI 13 (by decide)) (fun a z1 z2 => yA2 a (by omega) (by omega)) (fun a z1 z2 => (c3.2.2.2.2 a (by omega)).trans (by rw [eY]; rfl)), ⟨o1, o2, o3⟩, ?_, c2, ?_, h6.cg (xI2 2688 (by decide)) (yI 61 (by decide)) (fun a z1 z2 => xA2 a (by omega)) (fun a z1 z2 => yA2 a (by omega) (by omega)), h7.cgs (fun k z => xI2 k (by omega)) (fun a z => xA2 a (by omega)) (fun k z => yI k (by omega)) (fun a z => yA2 a (by omega) (by omega)) (by rw [c3.2.1, eY]; rfl)⟩
    · obtain ⟨p1, p2, p3, p4⟩ := o5
      have h5 := hok.2.1
      have h66 := hok.2.2.1
      refine ⟨by rw [b6, xR]; exact h3.1, by rw [b6, xR]; exact h3.2.1, by rw [b2, xA]; exact p1, fun c hc => ?_, fun d hd => ?_, ?_, fun i p hp => ?_⟩
      · rw [(b4 c (by omega)).1, (b4 c (by omega)).2, xA]; exact p3 c hc
      · rw [b5 d (by omega), xA]; exact p4 d hd
      · rw [b3, xA, p2, List.length_take, Nat.min_eq_left o4]
      · rw [xA2 14 (by decide), xA2 15 (by decide)]
        refine h3.2.2.2.2.2.2 i p ?_
        have hi := K_lt hp
        rw [List.length_take] at hi
        rw [List.getElem?_take_of_lt (by omega)] at hp
        exact hp
    · refine ⟨x0, f, v, e, a1, a2, by omega, ?_, ?_, (yI 53 (by decide)).trans a6, ?_, fun i hi => ?_, fun i j hij hj => a9 i j hij (by omega)⟩
      · rw [b9 2049 (by decide), eX, gI_ne (by decide), gI_at]
      · rw [b9 2050 (by decide), eX, gI_at]
      · rw [c3.2.2.1, eY, gI_at]
      · have mono := a9 i v (by omega) (by omega)
        refine (a8 i (by omega)).cg hok (by omega) ?_ ?_ (xA2 _ (by omega)) (fun a j z => yA a j (by unfold uP at z; omega) (fun y => by unfold lP tP dP at y; unfold uP at z; omega))
        · rw [List.take_take, Nat.min_eq_left mono]
        · show (e i).2.2.2 ≤ (s.2.take (e v).2.2.2).length
          rw [List.length_take, Nat.min_eq_left o4]
          exact mono
theorem RR.step {n0 q b : Nat} {T : TP} {nr C m m' : Nat} {pm pm' : Nat → Int32 × Nat} {s s' : Nat × List (Nat × Nat)} {MX MY MX' MY' : Mem} (h : RR n0 q b T nr C m pm s MX MY) (fx : XG stI stA MX MX') (hS : SX q T.nc T.nd m' pm' s' MX') (fy : YF (lP 0) MY MY') (hL : LyD 0 T.nc m' pm' s' MY') (hv : m' ≤ 9999 ∧ PsO T.nt T.nc pm' ∧ sOk T.nd s') (hK : ∃ L, s'.2 = s.2 ++ L) : RR n0 q b T nr C m' pm' s' MX' MY' := by
  obtain ⟨h1, h2, h3, h4, h5, h6, h7⟩ := h
  have hok := h1.2.2.2.1.2.1
  have gx : ∀ a, ¬ stA a → ¬ (a = 8 ∨ a = 9) → gA MX' a = gA MX a := fun a z1 z2 => fx.2.2.2.1 a (fun z => by
    rcases z with z | z | z
    · exact z2 (Or.inl z)
    · exact z2 (Or.inr z)
    · exact z1 z)
  have ix : ∀ k, ¬ ((897 ≤ k ∧ k ≤ 900) ∨ k = 903) → ¬ stI k → gI MX' k = gI MX k := fun k z1 z2 => fx.2.2.2.2 k (fun z => by
    rcases z with z | z | z
    · exact z1 (Or.inl z)
    · exact z1 (Or.inr z)
    · exact z2 z)
  have gy : ∀ a, ¬ (28 ≤ a ∧ a ≤ 33) → ¬ a = 35 → gA MY' a = gA MY a := fun a z1 z2 => by
    funext i
    exact fy.2.2.2.1 a i z2 (fun z => by unfold lP tP dP at z; omega)
  have iy : ∀ k, gI MY' k = gI MY k := fun k => by rw [fy.2.2.1]
  exact ⟨h1.cgs fx.1 (fun k z => ix k (by omega) (by unfold stI; omega)) (fun a z1 z2 => gx a (by unfold stA; omega) (by omega)) (iy 13) (fun a z1 z2 => gy a (by omega) (by omega)) (fun a z1 z2 => fy.2.2.2.2 a (by omega)), hv, hS, hL, h5.cg hok hK (fun p z1 z2 => gx p (by unfold stA; omega) (by omega)) (ix 2049 (by decide) (by unfold stI; decide)) (ix 2050 (by decide) (by unfold stI; decide)) (iy 53) (iy 54) (fun a i z => fy.2.2.2.1 a i (by unfold uP at z; omega) (fun y => by unfold lP tP dP at y; unfold uP at z; omega)), h6.cg (ix 2688 (by decide) (by unfold stI; decide)) (iy 61) (fun a z1 z2 => gx a (by unfold stA; omega) (by omega)) (fun a z1 z2 => gy a (by omega) (by omega)), h7.cgs (fun k z => ix k (by omega) (by unfold stI; omega)) (fun a z => gx a (by unfold stA; omega) (by omega)) (fun k _ => iy k) (fun a z => gy a (by omega) (by omega)) (by rw [fy.2.1])⟩
/-- a minute on both sides, but for doings -/
theorem tick2 {n0 q b : Nat} {T : TP} {nr C m : Nat} {pm : Nat → Int32 × Nat} {s : Nat × List (Nat × Nat)} {MX MY : Mem} (hn : 1700 ≤ n0) (h : RR n0 q b T nr C m pm s MX MY) (hm : m < 9999) : ∃ MX' MY', fX6_goOn n0 MX = some MX' ∧ fX12_ticks n0 0 MY = some MY' ∧ RR n0 q b T nr C (m + 1) (nxP T m pm) s MX' MY' := by
  obtain ⟨X1, a1, a2, a3⟩ := xgoS hn h.1.2.2.2.1 h.2.2.1 h.2.1.2.1 hm
  obtain ⟨Y1, b1, b2, b3⟩ := ytickD (v := 0) hn h.1.2.2.2.2.1 (by decide) h.2.2.2.1 h.2.1.2.1 h.2.1.2.2 (by omega)
  exact ⟨X1, Y1, a1, b1, h.step a3 a2 b3 b2 ⟨by omega, nxP_ok h.2.1.2.1, h.2.1.2.2⟩ ⟨[], (List.append_nil _).symm⟩⟩
/-- what is due on both sides -/
theorem due2 {n0 q b : Nat} {T : TP} {nr C m : Nat} {pm : Nat → Int32 × Nat} {s : Nat × List (Nat × Nat)} {MX MY : Mem} (hn : 1700 ≤ n0) (h : RR n0 q b T nr C m pm s MX MY) : ∃ r MX' MY', fX6_doWhatIsDue n0 MX = some (r, MX') ∧ fX12_finishesDoings n0 0 MY = some (r, MY') ∧ RR n0 q b T nr C m pm (fnS (due T pm m) m s T.nd) MX' MY' := by
  have hm := h.2.1.1
  obtain ⟨X1, a1, a2, a3⟩ := xfin hn h.1.2.2.2.1 h.2.2.1 h.2.1.2.1 (by omega) h.2.1.2.2
  obtain ⟨Y1, b1, b2, b3⟩ := yfinD (v := 0) hn h.1.2.2.2.2.1 (by decide) h.2.2.2.1 h.2.1.2.1 h.2.1.2.2 (by omega)
  exact ⟨_, X1, Y1, a1, b1, h.step a3 a2 b3 b2 ⟨hm, h.2.1.2.1, fnS_ok h.1.2.2.2.1.2.1.2.2.1 h.2.1.2.2 _ (Nat.le_refl _)⟩ (fnS_pre _)⟩
def upP (pm : Nat → Int32 × Nat) (c : Nat) (v : Int32 × Nat) : Nat → Int32 × Nat := fun j => if j = c then v else pm j
theorem put2 {n0 q b : Nat} {T : TP} {nr C m c : Nat} {t : Int32} {pm : Nat → Int32 × Nat} {s : Nat × List (Nat × Nat)} {MX MY : Mem} (h : RR n0 q b T nr C m pm s MX MY) (hc : c < T.nc) (ht : tOk T.nt t) : ∃ MX' MY', fX6_put n0 (nI c) t MX = some MX' ∧ fX12_puts n0 0 (nI c) t MY = some MY' ∧ RR n0 q b T nr C m (upP pm c (t, 0)) s MX' MY' := by
  have h5 := h.1.2.2.2.1.2.1.2.1
  have hl := h.2.1.2.2.l
  have cc : (nI c).toNatClampNeg = c := nI_clamp (by omega)
  refine ⟨sA (sA MX 11 c t) 12 c 0, sA (sA MY 29 (5 * 0 + c) t) 30 (5 * 0 + c) 0, ?_, yputs (v := 0) (by decide) (by omega), h.step ((XG.r.a (by unfold stA; omega)).a (by unfold stA; omega)) ?_ ((YF.r.a (by unfold lP tP; omega)).a (by unfold lP tP; omega)) ?_ ⟨h.2.1.1, fun j hj => ?_, h.2.1.2.2⟩ ⟨[], (List.append_nil _).symm⟩⟩
  · unfold fX6_put
    simp only [cc]
    exact eq_f (nI_nn (by omega)) (eq_f (nI_ge (b := 5) (by omega) (by decide)) (eq_f (nI_in (by omega) (by decide)) (eq_n (eq_f (nI_in (by omega) (by decide)) rfl))))
  · obtain ⟨s1, s2, s3, s4, s5, s6, s7⟩ := h.2.2.1
    refine ⟨s1, s2, s3, fun j hj => ?_, fun d hd => by rw [gA_sA_ne (by decide), gA_sA_ne (by decide)]; exact s5 d hd, s6, fun i p hp => by rw [gA_sA_ne (by decide), gA_sA_ne (by decide), gA_sA_ne (by decide), gA_sA_ne (by decide)]; exact s7 i p hp⟩
    rw [gA_sA_ne (by decide), gA_sA, if_pos rfl, gA_sA, if_pos rfl, gA_sA_ne (by decide)]
    unfold upP
    by_cases g : j = c
    · rw [if_pos g, if_pos g, if_pos g]; exact ⟨rfl, rfl⟩
    · rw [if_neg g, if_neg g, if_neg g]; exact s4 j hj
  · obtain ⟨⟨l1, l2⟩, l3, l4, l5⟩ := h.2.2.2.1
    refine ⟨⟨by rw [gA_sA_ne (by decide), gA_sA_ne (by decide)]; exact l1, fun j hj => ?_⟩, by rw [gA_sA_ne (by decide), gA_sA_ne (by decide)]; exact l3, by rw [gA_sA_ne (by decide), gA_sA_ne (by decide)]; exact l4, fun i p hp => by rw [gA_sA_ne (by decide), gA_sA_ne (by decide)]; exact l5 i p hp⟩
    rw [gA_sA_ne (by decide), gA_sA, if_pos rfl, gA_sA, if_pos rfl, gA_sA_ne (by decide)]
    unfold upP
    by_cases g : j = c
    · rw [if_pos (show 5 * 0 + j = 5 * 0 + c by omega), if_pos g, if_pos (show 5 * 0 + j = 5 * 0 + c by omega)]; exact ⟨rfl, rfl⟩
    · rw [if_neg (show ¬ 5 * 0 + j = 5 * 0 + c by omega), if_neg g, if_neg (show ¬ 5 * 0 + j = 5 * 0 + c by omega)]; exact l2 j hj
  · unfold upP
    by_cases g : j = c
    · rw [if_pos g]; exact ⟨ht, Nat.zero_le _⟩
    · rw [if_neg g]; exact h.2.1.2.1 j hj
abbrev xmL (n0 : Nat) : Nat → Int32 → Int32 → Int32 → Mem → Option (Int32 × Mem) := loopN (bX11_minutes_40 n0) (fun _ _ _ _ => none)
abbrev ymL (n0 : Nat) : Nat → Int32 → Int32 → Int32 → Mem → Option (Int32 × Mem) := loopN (bX12_minutes_25 n0) (fun _ _ _ _ => none)
theorem mnL {n0 q b : Nat} {T : TP} {nr C n : Nat} (hn : 1700 ≤ n0) (h100 : n ≤ 100) : ∀ w k m (acc : Int32) (pm : Nat → Int32 × Nat) (s : Nat × List (Nat × Nat)) (MX MY : Mem), k ≤ n → n < w + k → m + (n - k) ≤ 9999 → RR n0 q b T nr C m pm s MX MY → ∃ r MX' MY', xmL n0 w (nI n) acc (nI k) MX = some (r, MX') ∧ ymL n0 w (nI n) acc (nI k) MY = some (r, MY') ∧ R n0 MX' MY'
  | 0, k, _, _, _, _, _, _, hk, hw, _, _ => by omega
  | w + 1, k, m, acc, pm, s, MX, MY, hk, hw, hm, h => by
    show ∃ r MX' MY', bX11_minutes_40 n0 (xmL n0 w) (nI n) acc (nI k) MX = _ ∧ bX12_minutes_25 n0 (ymL n0 w) (nI n) acc (nI k) MY = _ ∧ _
    unfold bX11_minutes_40 bX12_minutes_25
    by_cases g : k = n
    · rw [g]
      exact ⟨acc, MX, MY, eq_t (Int32.le_refl _) rfl, eq_t (Int32.le_refl _) rfl, q, b, T, nr, C, m, pm, s, h⟩
    · have hc : ¬ nI n ≤ nI k := nI_ge (by omega) (by omega)
      obtain ⟨X1, Y1, a1, a2, a3⟩ := tick2 hn h (by omega)
      obtain ⟨r, X2, Y2, b1, b2, b3⟩ := due2 hn a3
      obtain ⟨r', X3, Y3, c1, c2, c3⟩ := mnL hn h100 w (k + 1) (m + 1) (acc + r) _ _ X2 Y2 (by omega) (by omega) (by omega) b3
      have k1 : nI k + 1 = nI (k + 1) := nI_add k 1
      refine ⟨r', X3, Y3, eq_f hc (eq_b a1 (eq_b b1 (eq_n ?_))), eq_f hc (eq_b (z := (r, Y2)) ?_ (eq_n ?_)), c3⟩
      · rw [k1]; exact c1
      · unfold fX12_passes
        exact eq_b a2 (eq_b b2 rfl)
      · rw [k1]; exact c2
/-- minutes ahead that can be: both sides -/
theorem ahead2 {n0 q b : Nat} {T : TP} {nr C m : Nat} {pm : Nat → Int32 × Nat} {s : Nat × List (Nat × Nat)} {MX MY : Mem} (h : RR n0 q b T nr C m pm s MX MY) (k : Nat) (hk : k ≤ 100) : (m + k ≤ 9999 ∧ fX11_isBeyond n0 (nI k) MX = some (0, MX) ∧ ¬ nI (9999 - k) < gA MY 28 0) ∨ (¬ m + k ≤ 9999 ∧ fX11_isBeyond n0 (nI k) MX = some (1, MX) ∧ nI (9999 - k) < gA MY 28 0) := by
  have hm := h.2.1.1
  have y : gA MY 28 0 = nI m := h.2.2.2.1.1.1
  rw [y]
  unfold fX11_isBeyond
  rw [h.2.2.1.2.2.1, show (9999 : Int32) - nI m = nI (9999 - m) from nI_subN hm]
  by_cases g : m + k ≤ 9999
  · exact Or.inl ⟨g, eq_t (nI_le (by omega) (by omega)) rfl, fun z => by have := (nI_ltI (by omega) (by omega)).mp z; omega⟩
  · exact Or.inr ⟨g, eq_f (nI_ge (by omega) (by omega)) rfl, nI_lt (by omega) (by omega)⟩
/-- the reference's isAhead at a layer 0 of minute m -/
theorem yah {n0 m lo hi : Nat} {M : Mem} (x : Int32) (h28 : gA M 28 0 = nI m) (hm : m ≤ 9999) (hhi : hi ≤ 100) (hlo : lo ≤ hi) : (∃ k, lo ≤ k ∧ k ≤ hi ∧ m + k ≤ 9999 ∧ x = nI k ∧ fX12_isAhead n0 x (nI lo) (nI hi) M = some (1, M)) ∨ ((x < nI lo ∨ nI hi < x ∨ ∃ k, lo ≤ k ∧ k ≤ hi ∧ x = nI k ∧ ¬ m + k ≤ 9999) ∧ fX12_isAhead n0 x (nI lo) (nI hi) M = some (0, M)) := by
  unfold fX12_isAhead fX12_is
  by_cases g1 : x < nI lo
  · exact Or.inr ⟨Or.inl g1, eq_b (eq_t g1 rfl) (eq_t rfl rfl)⟩
  · by_cases g2 : nI hi < x
    · exact Or.inr ⟨Or.inr (Or.inl g2), eq_b (eq_f g1 (eq_t g2 rfl)) (eq_t rfl rfl)⟩
    · have n0x : ¬ x < 0 := fun z => g1 (by
        rw [i_lt] at z ⊢
        rw [nI_toInt (by omega)]
        have : (0 : Int32).toInt = 0 := rfl
        omega)
      obtain ⟨k, hk, rfl⟩ := nI_of2 (M := nI hi) (n := hi) (nI_toInt (by omega)) n0x (Int32.not_lt.mp g2)
      have hlk : lo ≤ k := by
        rcases Nat.lt_or_ge k lo with z | z
        · exact absurd (nI_lt z (by omega)) g1
        · exact z
      have e : (9999 : Int32) - nI k = nI (9999 - k) := nI_subN (a := 9999) (by omega)
      have h28' : gA M 28 (Int32.toNatClampNeg 0) = nI m := h28
      by_cases g3 : m + k ≤ 9999
      · refine Or.inl ⟨k, hlk, hk, g3, rfl, eq_b (eq_f g1 (eq_f g2 rfl)) (eq_f (show ¬ (1 : Int32) = 0 by decide) (eq_f (by decide) (eq_f ?_ rfl)))⟩
        show ¬ (9999 : Int32) - nI k < gA M 28 (Int32.toNatClampNeg 0)
        rw [h28', e]
        exact fun z => by have := (nI_ltI (by omega) (by omega)).mp z; omega
      · refine Or.inr ⟨Or.inr (Or.inr ⟨k, hlk, hk, rfl, g3⟩), eq_b (eq_f g1 (eq_f g2 rfl)) (eq_f (show ¬ (1 : Int32) = 0 by decide) (eq_f (by decide) (eq_t ?_ rfl)))⟩
        show (9999 : Int32) - nI k < gA M 28 (Int32.toNatClampNeg 0)
        rw [h28', e]
        exact nI_lt (by omega) (by omega)
theorem cMinutes {n0 : Nat} {x : Int32} {MX MY : Mem} (hn : 1700 ≤ n0) (h : R n0 MX MY) : Cal n0 (fX11_minutes n0 x MX) (fX12_minutes n0 x MY) := by
  have h0 := h
  obtain ⟨q, b, T, nr, C, m, pm, s, h⟩ := h
  have hm := h.2.1.1
  have y : gA MY 28 0 = nI m := h.2.2.2.1.1.1
  have bad : ∀ f g, f = fX11_minutes_19 n0 MX → g = (fX12_refuses n0 2 MY).bind (fun z13 => some (z13.1, z13.2)) → Cal n0 f g := fun f g e1 e2 => by
    refine Cal.ref (k := 2) (r := -1) h0 (by decide) (e1.trans ?_) (e2.trans ?_)
    · unfold fX11_minutes_19
      exact eq_b (xref (k := 2) (by decide)) rfl
    · exact eq_b (yref (k := 2) (by decide)) rfl
  unfold fX11_minutes fX12_minutes
  rcases yah (n0 := n0) (lo := 1) (hi := 100) x y hm (by decide) (by decide) with ⟨k, k1, k2, k3, rfl, e⟩ | ⟨z, e⟩
  · rcases ahead2 h k k2 with ⟨_, e1, _⟩ | ⟨g, _⟩
    · obtain ⟨X1, Y1, a1, a2, a3⟩ := remem hn h
      obtain ⟨r, X2, Y2, b1, b2, b3⟩ := mnL hn k2 n0 0 m 0 pm s X1 Y1 (by omega) (by omega) (by omega) a3
      exact ⟨r, X2, Y2, eq_f (fun z => by have := (nI_ltI (b := 1) (by omega) (by decide)).mp z; omega) (eq_f (fun z => by have := (nI_ltI (a := 100) (by decide) (by omega)).mp z; omega) (eq_b e1 (eq_t rfl (eq_b a1 b1)))), eq_b e (eq_f (show ¬ (1 : Int32) = 0 by decide) (eq_b a2 b2)), b3⟩
    · exact absurd k3 g
  · refine bad _ _ ?_ (eq_b e (eq_t rfl rfl))
    rcases z with z | z | ⟨k, k1, k2, rfl, k3⟩
    · exact eq_t z rfl
    · by_cases g : x < 1
      · exact eq_t g rfl
      · exact eq_f g (eq_t z rfl)
    · rcases ahead2 h k k2 with ⟨g, _⟩ | ⟨_, e1, _⟩
      · exact absurd g k3
      · exact eq_f (fun z => by have := (nI_ltI (b := 1) (by omega) (by decide)).mp z; omega) (eq_f (fun z => by have := (nI_ltI (a := 100) (by decide) (by omega)).mp z; omega) (eq_b e1 (eq_f (show ¬ (1 : Int32) = 0 by decide) rfl)))
theorem putAct {n0 q b : Nat} {T : TP} {nr C m c : Nat} {t : Int32} {pm : Nat → Int32 × Nat} {s : Nat × List (Nat × Nat)} {MX MY : Mem} (hn : 1700 ≤ n0) (h : RR n0 q b T nr C m pm s MX MY) (hc : c < T.nc) (ht : tOk T.nt t) : ∃ r X5 Y1 Y2 Y3 Y4 r2, fX11_putByAct n0 (nI c) t MX = some (r, X5) ∧ fX12_keeps n0 MY = some Y1 ∧ fX12_puts n0 0 (nI c) t Y1 = some Y2 ∧ fX12_finishesDoings n0 0 Y2 = some (r2, Y3) ∧ fX12_hour n0 0 (nI c) Y3 = some (r, Y4) ∧ R n0 X5 Y4 := by
  obtain ⟨X1, Y1, a1, a2, a3⟩ := remem hn h
  obtain ⟨X2, Y2, b1, b2, b3⟩ := put2 a3 hc ht
  obtain ⟨r2, X3, Y3, c1, c2, c3⟩ := due2 hn b3
  have hm := c3.2.1.1
  obtain ⟨X4, d1, d2⟩ := xhourAt c3.1.2.2.2.1 c3.2.2.1 c3.2.1.2.1 (by omega) hc
  obtain ⟨_, Y4, e1, e2⟩ := yhr c3.1.2.2.2.2.1 (v := 0) (by decide) c3.2.2.2.1.1 c3.2.1.2.1 (by omega) hc
  refine ⟨_, X4, Y1, Y2, Y3, Y4, r2, ?_, a2, b2, c2, e1, _, _, _, _, _, _, _, _, c3.scr d2.n e2.y⟩
  unfold fX11_putByAct
  exact eq_b a1 (eq_b b1 (eq_b c1 (eq_b d1 rfl)))
theorem cGive {n0 : Nat} {x y : Int32} {MX MY : Mem} (hn : 1700 ≤ n0) (h : R n0 MX MY) : Cal n0 (fX11_give n0 x y MX) (fX12_give n0 x y MY) := by
  have h0 := h
  obtain ⟨q, b, T, nr, C, m, pm, s, h⟩ := h
  have bad : ∀ f g, f = fX11_give_22 n0 MX → g = fX12_give_16 n0 MY → Cal n0 f g := fun f g e1 e2 => by
    refine Cal.ref (k := 3) (r := -1) h0 (by decide) (e1.trans ?_) (e2.trans ?_)
    · unfold fX11_give_22
      exact eq_b (xref (k := 3) (by decide)) rfl
    · unfold fX12_give_16
      exact eq_b (yref (k := 3) (by decide)) rfl
  unfold fX11_give fX12_give
  rcases isCo h.1 x with ⟨k, hk, rfl, e1, e2⟩ | ⟨z, e1, e2⟩
  · rcases isTh h.1 y with ⟨j, hj, rfl, d1, d2⟩ | ⟨z, d1, d2⟩
    · obtain ⟨r, X5, Y1, Y2, Y3, Y4, r2, a1, a2, a3, a4, a5, a6⟩ := putAct hn h hk (t := nI j) (Or.inr ⟨j, hj, rfl⟩)
      exact ⟨r, X5, Y4, eq_b e1 (eq_f (show ¬ (1 : Int32) = 0 by decide) (eq_b d1 (eq_f (show ¬ (1 : Int32) = 0 by decide) (eq_b a1 rfl)))), eq_b e2 (eq_f (show ¬ (1 : Int32) = 0 by decide) (eq_b d2 (eq_f (show ¬ (1 : Int32) = 0 by decide) (eq_b a2 (eq_b a3 (eq_b a4 (eq_b a5 rfl))))))), a6⟩
    · exact bad _ _ (eq_b e1 (eq_f (show ¬ (1 : Int32) = 0 by decide) (eq_b d1 (eq_t rfl rfl)))) (eq_b e2 (eq_f (show ¬ (1 : Int32) = 0 by decide) (eq_b d2 (eq_t rfl rfl))))
  · exact bad _ _ (eq_b e1 (eq_t rfl rfl)) (eq_b e2 (eq_t rfl rfl))
theorem cTake {n0 : Nat} {x : Int32} {MX MY : Mem} (hn : 1700 ≤ n0) (h : R n0 MX MY) : Cal n0 (fX11_take n0 x MX) (fX12_take n0 x MY) := by
  have h0 := h
  obtain ⟨q, b, T, nr, C, m, pm, s, h⟩ := h
  have h5 := h.1.2.2.2.1.2.1.2.1
  have bad : ∀ f g, f = fX11_take_24 n0 MX → g = fX12_take_18 n0 MY → Cal n0 f g := fun f g e1 e2 => by
    refine Cal.ref (k := 3) (r := -1) h0 (by decide) (e1.trans ?_) (e2.trans ?_)
    · unfold fX11_take_24
      exact eq_b (xref (k := 3) (by decide)) rfl
    · unfold fX12_take_18
      exact eq_b (yref (k := 3) (by decide)) rfl
  unfold fX11_take fX12_take
  rcases isCo h.1 x with ⟨k, hk, rfl, e1, e2⟩ | ⟨z, e1, e2⟩
  · have ck : (nI k).toNatClampNeg = k := nI_clamp (by omega)
    have px := (h.2.2.1.2.2.2.1 k hk).1
    have py := (h.2.2.2.1.1.2 k hk).1
    rw [show 5 * 0 + k = k by omega] at py
    by_cases g : (pm k).1 = -1
    · exact bad _ _ (eq_b e1 (eq_f (show ¬ (1 : Int32) = 0 by decide) (eq_f (nI_in (by omega) (by decide)) (eq_t (by rw [ck, px]; exact g) rfl)))) (eq_b e2 (eq_f (show ¬ (1 : Int32) = 0 by decide) (eq_f (nI_in (by omega) (by decide)) (eq_t (by rw [ck, py]; exact g) rfl))))
    · obtain ⟨r, X5, Y1, Y2, Y3, Y4, r2, a1, a2, a3, a4, a5, a6⟩ := putAct hn h hk (t := -1) (Or.inl rfl)
      exact ⟨r, X5, Y4, eq_b e1 (eq_f (show ¬ (1 : Int32) = 0 by decide) (eq_f (nI_in (by omega) (by decide)) (eq_f (by rw [ck, px]; exact g) (eq_b a1 rfl)))), eq_b e2 (eq_f (show ¬ (1 : Int32) = 0 by decide) (eq_f (nI_in (by omega) (by decide)) (eq_f (by rw [ck, py]; exact g) (eq_b a2 (eq_b a3 (eq_b a4 (eq_b a5 rfl))))))), a6⟩
  · exact bad _ _ (eq_b e1 (eq_t rfl rfl)) (eq_b e2 (eq_t rfl rfl))
