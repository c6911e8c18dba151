section
/-! ACTS: undo, minutes, give, take, chance -/
theorem xback {n0 p : Nat} {M : Mem} (hl : LX.ln p = 18) (hp : 63 ≤ p) : ∃ M', fX6_bringBack n0 p M = some M' ∧ gI M' 1281 = gA M p 0 ∧ gI M' 1285 = gA M p 1 ∧ (∀ c, c < 5 → gA M' 11 c = gA M p (2 + c) ∧ gA M' 12 c = gA M p (7 + c)) ∧ (∀ d, d < 6 → gA M' 13 d = gA M p (12 + d)) ∧ gR M' = gR M ∧ gL M' = gL M ∧ gB M' = gB M ∧ (∀ k, ¬ (k = 1281 ∨ k = 1285) → gI M' k = gI M k) ∧ ∀ a, ¬ (a = 11 ∨ a = 12 ∨ a = 13) → gA M' a = gA M a := by
  have so : ∀ (N : Mem) (f : Nat → Int32) (a r : Nat), ¬ a = r → gA (sF N r f) a = gA N a := fun N f a r z => by
    funext j
    rw [gA_sF, if_neg z]
  have sp : ∀ (N : Mem) (f : Nat → Int32) (r : Nat), gA (sF N r f) r = f := fun N f r => by
    funext j
    rw [gA_sF, if_pos rfl]
  have hM2 : ∃ M2, M2 = sI (sI M 1281 (gA M p 0)) 1285 (gA M p 1) := ⟨_, rfl⟩
  obtain ⟨M2, e2⟩ := hM2
  have hM3 : ∃ M3, M3 = sF M2 11 (va_cpy (gA M2 p) (gA M2 11) 2 0 5) := ⟨_, rfl⟩
  obtain ⟨M3, e3⟩ := hM3
  have hM4 : ∃ M4, M4 = sF M3 12 (va_cpy (gA M3 p) (gA M3 12) 7 0 5) := ⟨_, rfl⟩
  obtain ⟨M4, e4⟩ := hM4
  have hM5 : ∃ M5, M5 = sF M4 13 (va_cpy (gA M4 p) (gA M4 13) 12 0 6) := ⟨_, rfl⟩
  obtain ⟨M5, e5⟩ := hM5
  have vo : gA M2 = gA M := by rw [e2]; rfl
  have p3 : gA M3 p = gA M p := by rw [e3, so _ _ p 11 (by omega), vo]
  have p4 : gA M4 p = gA M p := by rw [e4, so _ _ p 12 (by omega), p3]
  refine ⟨M5, ?_, ?_, ?_, fun c hc => ⟨?_, ?_⟩, fun d hd => ?_, ?_, ?_, ?_, fun k z => ?_, fun a z => ?_⟩
  · unfold fX6_bringBack
    refine eq_t (by rw [hl]; decide) (eq_f (by rw [hl]; decide) (eq_n (eq_f (by rw [hl]; decide) (eq_e (v' := M2) (by rw [e2]; rfl) (eq_f (by rw [hl]; decide) (eq_e (v' := M3) (by rw [e3]; rfl) (eq_f (by rw [hl]; decide) (eq_e (v' := M4) (by rw [e4]; rfl) (eq_f (by rw [hl]; decide) ?_)))))))))
    rw [e5]
    rfl
  · rw [e5, e4, e3, e2]; rfl
  · rw [e5, e4, e3, e2]; rfl
  · rw [e5, so _ _ 11 13 (by decide), e4, so _ _ 11 12 (by decide), e3, sp, vo]; unfold va_cpy; rw [if_pos (by omega)]; congr 1
  · rw [e5, so _ _ 12 13 (by decide), e4, sp, p3]; unfold va_cpy; rw [if_pos (by omega)]; congr 1
  · rw [e5, sp, p4]; unfold va_cpy; rw [if_pos (by omega)]; congr 1
  · rw [e5, e4, e3, e2]; rfl
  · rw [e5, e4, e3, e2]; rfl
  · rw [e5, e4, e3, e2]; rfl
  · rw [e5, e4, e3, e2]
    show gI (sI (sI M 1281 _) 1285 _) k = _
    rw [gI_ne (by omega), gI_ne (by omega)]
  · rw [e5, so _ _ a 13 (by omega), e4, so _ _ a 12 (by omega), e3, so _ _ a 11 (by omega), vo]
theorem cUndo {n0 : Nat} {MX MY : Mem} (hn : 1700 ≤ n0) (h : R n0 MX MY) : Cal n0 (fX11_undo n0 MX) (fX12_undo n0 MY) := by
  have h0 := h
  obtain ⟨q, b, T, nr, C, m, pm, s, h⟩ := h
  obtain ⟨h1, h2, h3, h4, ⟨x0, f, u, e, a1, a2, a3, a4, a5, a6, a7, a8, a9⟩, h6, h7⟩ := h
  have hok := h1.2.2.2.1.2.1
  have hl := h2.2.2.l
  by_cases g : u = 0
  · subst g
    refine Cal.ref (k := 4) (r := 0) h0 (by decide) ?_ ?_
    · unfold fX11_undo
      refine eq_b (z := (0, MX)) ?_ (eq_t rfl (eq_b (xref (k := 4) (by decide)) rfl))
      unfold fX2_bringBack
      exact eq_f (by rw [a5]; decide) rfl
    · unfold fX12_undo
      exact eq_t (by rw [a7]; rfl) (eq_b (yref (k := 4) (by decide)) (eq_t (show (-1 : Int32) < 0 by decide) rfl))
  · obtain ⟨v, rfl⟩ : ∃ v, u = v + 1 := ⟨u - 1, by omega⟩
    obtain ⟨o1, o2, o3, o4, o5, o6⟩ := a8 v (by omega)
    have ol := o3.l
    -- the class
    have hp : (x0 + v) % 20 < 20 := by omega
    have hX1 : ∃ X1, X1 = sI (sI MX 2049 (nI ((x0 + v) % 20))) 2050 (nI v) := ⟨_, rfl⟩
    obtain ⟨X1, eX⟩ := hX1
    obtain ⟨X2, b1, b2, b3, b4, b5, b6, b7, b8, b9, b10⟩ := xback (n0 := n0) (M := X1) (ln63 _ hp) (by omega)
    have xA : gA X1 = gA MX := by rw [eX]; rfl
    have xR : gR X1 = gR MX := by rw [eX]; rfl
    have xI : ∀ k, ¬ (k = 2049 ∨ k = 2050) → gI X1 k = gI MX k := fun k z => by rw [eX, gI_ne (by omega), gI_ne (by omega)]
    have x1 : fX11_undo n0 MX = some (1, X2) := by
      unfold fX11_undo
      refine eq_b (z := (1, X2)) ?_ (eq_f (show ¬ (1 : Int32) = 0 by decide) rfl)
      unfold fX2_bringBack
      refine eq_t (by rw [a5]; exact nI_lt (a := 0) (by omega) (by omega)) (eq_f (by decide) (eq_e (v' := sI MX 2049 (nI ((x0 + v) % 20))) ?_ (eq_e (v' := X1) ?_ (eq_f ?_ (eq_b (z := X2) ?_ rfl)))))
      · rw [a4, show nI ((x0 + (v + 1)) % 20) + 20 = nI ((x0 + (v + 1)) % 20 + 20) from nI_add _ 20, show nI ((x0 + (v + 1)) % 20 + 20) - 1 = nI ((x0 + (v + 1)) % 20 + 19) from nIs _, show (20 : Int32) = nI 20 from rfl, rem_nI (by omega) (by decide)]
        congr 2
        omega
      · rw [eX, gI_ne (by decide), a5, nIs]
      · rw [eX, gI_ne (by decide), gI_at]
        exact nI_in hp (by decide)
      · rw [show gI X1 2049 = nI ((x0 + v) % 20) by rw [eX, gI_ne (by decide), gI_at], nI_clamp (by omega)]
        exact b1
    -- the reference
    have hY1 : ∃ Y1, Y1 = sI MY 54 (nI v) := ⟨_, rfl⟩
    obtain ⟨Y1, eY⟩ := hY1
    obtain ⟨Y2, c1, c2, c3⟩ := ycopyD (n0 := n0) (v := 0) (u := 2 + (f + v) % 20) (M := Y1) hn (by decide) (by omega) (by omega) hok.2.1 (by omega) (o6.cg hok.2.1 (by omega) (fun a i _ => by rw [eY]; rfl))
    have y1 : fX12_undo n0 MY = some (1, Y2) := by
      unfold fX12_undo
      refine eq_f (by rw [a7]; exact nI_ne0 (by omega) (by omega)) (eq_e (v' := Y1) (by rw [eY, a7, nIs]) (eq_b (z := (nI (2 + (f + v) % 20), Y1)) ?_ (eq_b c1 rfl)))
      rw [show gI Y1 54 = nI v by rw [eY, gI_at]]
      exact yslot a2 (by omega) (by rw [eY, gI_ne (by decide)]; exact a6)
    have yI : ∀ k, ¬ k = 54 → gI Y2 k = gI MY k := fun k z => by rw [c3.2.2.1, eY, gI_ne z]
    have yA : ∀ a i, ¬ a = 35 → ¬ lP 0 a i → gA Y2 a i = gA MY a i := fun a i z1 z2 => (c3.2.2.2.1 a i z1 z2).trans (by rw [eY]; rfl)
    have yA2 : ∀ a, ¬ (28 ≤ a ∧ a ≤ 33) → ¬ a = 35 → gA Y2 a = gA MY a := fun a z1 z2 => by
      funext i
      exact yA a i z2 (fun z => by unfold lP tP dP at z; omega)
    have xA2 : ∀ a, ¬ (a = 11 ∨ a = 12 ∨ a = 13) → gA X2 a = gA MX a := fun a z => (b10 a z).trans (by rw [xA])
    have xI2 : ∀ k, ¬ (k = 2049 ∨ k = 2050 ∨ k = 1281 ∨ k = 1285) → gI X2 k = gI MX k := fun k z => (b9 k (by omega)).trans (xI k (by omega))
    refine ⟨1, X2, Y2, x1, y1, q, b, T, nr, C, (e v).1, (e v).2.1, ((e v).2.2.1, s.2.take (e v).2.2.2), h1.cgs (b6.trans xR) (fun k z => xI2 k (by omega)) (fun a z1 z2 => xA2 a (by omega)) (yI 13 (by decide)) (fun a z1 z2 => yA2 a (by omega) (by omega)) (fun a z1 z2 => (c3.2.2.2.2 a (by omega)).trans (by rw [eY]; rfl)), ⟨o1, o2, o3⟩, ?_, c2, ?_, h6.cg (xI2 2688 (by decide)) (yI 61 (by decide)) (fun a z1 z2 => xA2 a (by omega)) (fun a z1 z2 => yA2 a (by omega) (by omega)), h7.cgs (fun k z => xI2 k (by omega)) (fun a z => xA2 a (by omega)) (fun k z => yI k (by omega)) (fun a z => yA2 a (by omega) (by omega)) (by rw [c3.2.1, eY]; rfl)⟩
    · obtain ⟨p1, p2, p3, p4⟩ := o5
      have h5 := hok.2.1
      have h66 := hok.2.2.1
      refine ⟨by rw [b6, xR]; exact h3.1, by rw [b6, xR]; exact h3.2.1, by rw [b2, xA]; exact p1, fun c hc => ?_, fun d hd => ?_, ?_, fun i p hp => ?_⟩
      · rw [(b4 c (by omega)).1, (b4 c (by omega)).2, xA]; exact p3 c hc
      · rw [b5 d (by omega), xA]; exact p4 d hd
      · rw [b3, xA, p2, List.length_take, Nat.min_eq_left o4]
      · rw [xA2 14 (by decide), xA2 15 (by decide)]
        refine h3.2.2.2.2.2.2 i p ?_
        have hi := K_lt hp
        rw [List.length_take] at hi
        rw [List.getElem?_take_of_lt (by omega)] at hp
        exact hp
    · refine ⟨x0, f, v, e, a1, a2, by omega, ?_, ?_, (yI 53 (by decide)).trans a6, ?_, fun i hi => ?_, fun i j hij hj => a9 i j hij (by omega)⟩
      · rw [b9 2049 (by decide), eX, gI_ne (by decide), gI_at]
      · rw [b9 2050 (by decide), eX, gI_at]
      · rw [c3.2.2.1, eY, gI_at]
      · have mono := a9 i v (by omega) (by omega)
        refine (a8 i (by omega)).cg hok (by omega) ?_ ?_ (xA2 _ (by omega)) (fun a j z => yA a j (by unfold uP at z; omega) (fun y => by unfold lP tP dP at y; unfold uP at z; omega))
        · rw [List.take_take, Nat.min_eq_left mono]
        · show (e i).2.2.2 ≤ (s.2.take (e v).2.2.2).length
          rw [List.length_take, Nat.min_eq_left o4]
          exact mono
theorem RR.step {n0 q b : Nat} {T : TP} {nr C m m' : Nat} {pm pm' : Nat → Int32 × Nat} {s s' : Nat × List (Nat × Nat)} {MX MY MX' MY' : Mem} (h : RR n0 q b T nr C m pm s MX MY) (fx : XG stI stA MX MX') (hS : SX q T.nc T.nd m' pm' s' MX') (fy : YF (lP 0) MY MY') (hL : LyD 0 T.nc m' pm' s' MY') (hv : m' ≤ 9999 ∧ PsO T.nt T.nc pm' ∧ sOk T.nd s') (hK : ∃ L, s'.2 = s.2 ++ L) : RR n0 q b T nr C m' pm' s' MX' MY' := by
  obtain ⟨h1, h2, h3, h4, h5, h6, h7⟩ := h
  have hok := h1.2.2.2.1.2.1
  have gx : ∀ a, ¬ stA a → ¬ (a = 8 ∨ a = 9) → gA MX' a = gA MX a := fun a z1 z2 => fx.2.2.2.1 a (fun z => by
    rcases z with z | z | z
    · exact z2 (Or.inl z)
    · exact z2 (Or.inr z)
    · exact z1 z)
  have ix : ∀ k, ¬ ((897 ≤ k ∧ k ≤ 900) ∨ k = 903) → ¬ stI k → gI MX' k = gI MX k := fun k z1 z2 => fx.2.2.2.2 k (fun z => by
    rcases z with z | z | z
    · exact z1 (Or.inl z)
    · exact z1 (Or.inr z)
    · exact z2 z)
  have gy : ∀ a, ¬ (28 ≤ a ∧ a ≤ 33) → ¬ a = 35 → gA MY' a = gA MY a := fun a z1 z2 => by
    funext i
    exact fy.2.2.2.1 a i z2 (fun z => by unfold lP tP dP at z; omega)
  have iy : ∀ k, gI MY' k = gI MY k := fun k => by rw [fy.2.2.1]
  exact ⟨h1.cgs fx.1 (fun k z => ix k (by omega) (by unfold stI; omega)) (fun a z1 z2 => gx a (by unfold stA; omega) (by omega)) (iy 13) (fun a z1 z2 => gy a (by omega) (by omega)) (fun a z1 z2 => fy.2.2.2.2 a (by omega)), hv, hS, hL, h5.cg hok hK (fun p z1 z2 => gx p (by unfold stA; omega) (by omega)) (ix 2049 (by decide) (by unfold stI; decide)) (ix 2050 (by decide) (by unfold stI; decide)) (iy 53) (iy 54) (fun a i z => fy.2.2.2.1 a i (by unfold uP at z; omega) (fun y => by unfold lP tP dP at y; unfold uP at z; omega)), h6.cg (ix 2688 (by decide) (by unfold stI; decide)) (iy 61) (fun a z1 z2 => gx a (by unfold stA; omega) (by omega)) (fun a z1 z2 => gy a (by omega) (by omega)), h7.cgs (fun k z => ix k (by omega) (by unfold stI; omega)) (fun a z => gx a (by unfold stA; omega) (by omega)) (fun k _ => iy k) (fun a z => gy a (by omega) (by omega)) (by rw [fy.2.1])⟩
/-- a minute on both sides, but for doings -/
theorem tick2 {n0 q b : Nat} {T : TP} {nr C m : Nat} {pm : Nat → Int32 × Nat} {s : Nat × List (Nat × Nat)} {MX MY : Mem} (hn : 1700 ≤ n0) (h : RR n0 q b T nr C m pm s MX MY) (hm : m < 9999) : ∃ MX' MY', fX6_goOn n0 MX = some MX' ∧ fX12_ticks n0 0 MY = some MY' ∧ RR n0 q b T nr C (m + 1) (nxP T m pm) s MX' MY' := by
  obtain ⟨X1, a1, a2, a3⟩ := xgoS hn h.1.2.2.2.1 h.2.2.1 h.2.1.2.1 hm
  obtain ⟨Y1, b1, b2, b3⟩ := ytickD (v := 0) hn h.1.2.2.2.2.1 (by decide) h.2.2.2.1 h.2.1.2.1 h.2.1.2.2 (by omega)
  exact ⟨X1, Y1, a1, b1, h.step a3 a2 b3 b2 ⟨by omega, nxP_ok h.2.1.2.1, h.2.1.2.2⟩ ⟨[], (List.append_nil _).symm⟩⟩
/-- what is due on both sides -/
theorem due2 {n0 q b : Nat} {T : TP} {nr C m : Nat} {pm : Nat → Int32 × Nat} {s : Nat × List (Nat × Nat)} {MX MY : Mem} (hn : 1700 ≤ n0) (h : RR n0 q b T nr C m pm s MX MY) : ∃ r MX' MY', fX6_doWhatIsDue n0 MX = some (r, MX') ∧ fX12_finishesDoings n0 0 MY = some (r, MY') ∧ RR n0 q b T nr C m pm (fnS (due T pm m) m s T.nd) MX' MY' := by
  have hm := h.2.1.1
  obtain ⟨X1, a1, a2, a3⟩ := xfin hn h.1.2.2.2.1 h.2.2.1 h.2.1.2.1 (by omega) h.2.1.2.2
  obtain ⟨Y1, b1, b2, b3⟩ := yfinD (v := 0) hn h.1.2.2.2.2.1 (by decide) h.2.2.2.1 h.2.1.2.1 h.2.1.2.2 (by omega)
  exact ⟨_, X1, Y1, a1, b1, h.step a3 a2 b3 b2 ⟨hm, h.2.1.2.1, fnS_ok h.1.2.2.2.1.2.1.2.2.1 h.2.1.2.2 _ (Nat.le_refl _)⟩ (fnS_pre _)⟩
def upP (pm : Nat → Int32 × Nat) (c : Nat) (v : Int32 × Nat) : Nat → Int32 × Nat := fun j => if j = c then v else pm j
theorem put2 {n0 q b : Nat} {T : TP} {nr C m c : Nat} {t : Int32} {pm : Nat → Int32 × Nat} {s : Nat × List (Nat × Nat)} {MX MY : Mem} (h : RR n0 q b T nr C m pm s MX MY) (hc : c < T.nc) (ht : tOk T.nt t) : ∃ MX' MY', fX6_put n0 (nI c) t MX = some MX' ∧ fX12_puts n0 0 (nI c) t MY = some MY' ∧ RR n0 q b T nr C m (upP pm c (t, 0)) s MX' MY' := by
  have h5 := h.1.2.2.2.1.2.1.2.1
  have hl := h.2.1.2.2.l
  have cc : (nI c).toNatClampNeg = c := nI_clamp (by omega)
  refine ⟨sA (sA MX 11 c t) 12 c 0, sA (sA MY 29 (5 * 0 + c) t) 30 (5 * 0 + c) 0, ?_, yputs (v := 0) (by decide) (by omega), h.step ((XG.r.a (by unfold stA; omega)).a (by unfold stA; omega)) ?_ ((YF.r.a (by unfold lP tP; omega)).a (by unfold lP tP; omega)) ?_ ⟨h.2.1.1, fun j hj => ?_, h.2.1.2.2⟩ ⟨[], (List.append_nil _).symm⟩⟩
  · unfold fX6_put
    simp only [cc]
    exact eq_f (nI_nn (by omega)) (eq_f (nI_ge (b := 5) (by omega) (by decide)) (eq_f (nI_in (by omega) (by decide)) (eq_n (eq_f (nI_in (by omega) (by decide)) rfl))))
  · obtain ⟨s1, s2, s3, s4, s5, s6, s7⟩ := h.2.2.1
    refine ⟨s1, s2, s3, fun j hj => ?_, fun d hd => by rw [gA_sA_ne (by decide), gA_sA_ne (by decide)]; exact s5 d hd, s6, fun i p hp => by rw [gA_sA_ne (by decide), gA_sA_ne (by decide), gA_sA_ne (by decide), gA_sA_ne (by decide)]; exact s7 i p hp⟩
    rw [gA_sA_ne (by decide), gA_sA, if_pos rfl, gA_sA, if_pos rfl, gA_sA_ne (by decide)]
    unfold upP
    by_cases g : j = c
    · rw [if_pos g, if_pos g, if_pos g]; exact ⟨rfl, rfl⟩
    · rw [if_neg g, if_neg g, if_neg g]; exact s4 j hj
  · obtain ⟨⟨l1, l2⟩, l3, l4, l5⟩ := h.2.2.2.1
    refine ⟨⟨by rw [gA_sA_ne (by decide), gA_sA_ne (by decide)]; exact l1, fun j hj => ?_⟩, by rw [gA_sA_ne (by decide), gA_sA_ne (by decide)]; exact l3, by rw [gA_sA_ne (by decide), gA_sA_ne (by decide)]; exact l4, fun i p hp => by rw [gA_sA_ne (by decide), gA_sA_ne (by decide)]; exact l5 i p hp⟩
    rw [gA_sA_ne (by decide), gA_sA, if_pos rfl, gA_sA, if_pos rfl, gA_sA_ne (by decide)]
    unfold upP
    by_cases g : j = c
    · rw [if_pos (show 5 * 0 + j = 5 * 0 + c by omega), if_pos g, if_pos (show 5 * 0 + j = 5 * 0 + c by omega)]; exact ⟨rfl, rfl⟩
    · rw [if_neg (show ¬ 5 * 0 + j = 5 * 0 + c by omega), if_neg g, if_neg (show ¬ 5 * 0 + j = 5 * 0 + c by omega)]; exact l2 j hj
  · unfold upP
    by_cases g : j = c
    · rw [if_pos g]; exact ⟨ht, Nat.zero_le _⟩
    · rw [if_neg g]; exact h.2.1.2.1 j hj
abbrev xmL (n0 : Nat) : Nat → Int32 → Int32 → Int32 → Mem → Option (Int32 × Mem) := loopN (bX11_minutes_40 n0) (fun _ _ _ _ => none)
abbrev ymL (n0 : Nat) : Nat → Int32 → Int32 → Int32 → Mem → Option (Int32 × Mem) := loopN (bX12_minutes_25 n0) (fun _ _ _ _ => none)
theorem mnL {n0 q b : Nat} {T : TP} {nr C n : Nat} (hn : 1700 ≤ n0) (h100 : n ≤ 100) : ∀ w k m (acc : Int32) (pm : Nat → Int32 × Nat) (s : Nat × List (Nat × Nat)) (MX MY : Mem), k ≤ n → n < w + k → m + (n - k) ≤ 9999 → RR n0 q b T nr C m pm s MX MY → ∃ r MX' MY', xmL n0 w (nI n) acc (nI k) MX = some (r, MX') ∧ ymL n0 w (nI n) acc (nI k) MY = some (r, MY') ∧ R n0 MX' MY'
  | 0, k, _, _, _, _, _, _, hk, hw, _, _ => by omega
  | w + 1, k, m, acc, pm, s, MX, MY, hk, hw, hm, h => by
    show ∃ r MX' MY', bX11_minutes_40 n0 (xmL n0 w) (nI n) acc (nI k) MX = _ ∧ bX12_minutes_25 n0 (ymL n0 w) (nI n) acc (nI k) MY = _ ∧ _
    unfold bX11_minutes_40 bX12_minutes_25
    by_cases g : k = n
    · rw [g]
      exact ⟨acc, MX, MY, eq_t (Int32.le_refl _) rfl, eq_t (Int32.le_refl _) rfl, q, b, T, nr, C, m, pm, s, h⟩
    · have hc : ¬ nI n ≤ nI k := nI_ge (by omega) (by omega)
      obtain ⟨X1, Y1, a1, a2, a3⟩ := tick2 hn h (by omega)
      obtain ⟨r, X2, Y2, b1, b2, b3⟩ := due2 hn a3
      obtain ⟨r', X3, Y3, c1, c2, c3⟩ := mnL hn h100 w (k + 1) (m + 1) (acc + r) _ _ X2 Y2 (by omega) (by omega) (by omega) b3
      have k1 : nI k + 1 = nI (k + 1) := nI_add k 1
      refine ⟨r', X3, Y3, eq_f hc (eq_b a1 (eq_b b1 (eq_n ?_))), eq_f hc (eq_b (z := (r, Y2)) ?_ (eq_n ?_)), c3⟩
      · rw [k1]; exact c1
      · unfold fX12_passes
        exact eq_b a2 (eq_b b2 rfl)
      · rw [k1]; exact c2
/-- minutes ahead that can be: both sides -/
theorem ahead2 {n0 q b : Nat} {T : TP} {nr C m : Nat} {pm : Nat → Int32 × Nat} {s : Nat × List (Nat × Nat)} {MX MY : Mem} (h : RR n0 q b T nr C m pm s MX MY) (k : Nat) (hk : k ≤ 100) : (m + k ≤ 9999 ∧ fX11_isBeyond n0 (nI k) MX = some (0, MX) ∧ ¬ nI (9999 - k) < gA MY 28 0) ∨ (¬ m + k ≤ 9999 ∧ fX11_isBeyond n0 (nI k) MX = some (1, MX) ∧ nI (9999 - k) < gA MY 28 0) := by
  have hm := h.2.1.1
  have y : gA MY 28 0 = nI m := h.2.2.2.1.1.1
  rw [y]
  unfold fX11_isBeyond
  rw [h.2.2.1.2.2.1, show (9999 : Int32) - nI m = nI (9999 - m) from nI_subN hm]
  by_cases g : m + k ≤ 9999
  · exact Or.inl ⟨g, eq_t (nI_le (by omega) (by omega)) rfl, fun z => by have := (nI_ltI (by omega) (by omega)).mp z; omega⟩
  · exact Or.inr ⟨g, eq_f (nI_ge (by omega) (by omega)) rfl, nI_lt (by omega) (by omega)⟩
/-- the reference's isAhead at a layer 0 of minute m -/
theorem yah {n0 m lo hi : Nat} {M : Mem} (x : Int32) (h28 : gA M 28 0 = nI m) (hm : m ≤ 9999) (hhi : hi ≤ 100) (hlo : lo ≤ hi) : (∃ k, lo ≤ k ∧ k ≤ hi ∧ m + k ≤ 9999 ∧ x = nI k ∧ fX12_isAhead n0 x (nI lo) (nI hi) M = some (1, M)) ∨ ((x < nI lo ∨ nI hi < x ∨ ∃ k, lo ≤ k ∧ k ≤ hi ∧ x = nI k ∧ ¬ m + k ≤ 9999) ∧ fX12_isAhead n0 x (nI lo) (nI hi) M = some (0, M)) := by
  unfold fX12_isAhead fX12_is
  by_cases g1 : x < nI lo
  · exact Or.inr ⟨Or.inl g1, eq_b (eq_t g1 rfl) (eq_t rfl rfl)⟩
  · by_cases g2 : nI hi < x
    · exact Or.inr ⟨Or.inr (Or.inl g2), eq_b (eq_f g1 (eq_t g2 rfl)) (eq_t rfl rfl)⟩
    · have n0x : ¬ x < 0 := fun z => g1 (by
        rw [i_lt] at z ⊢
        rw [nI_toInt (by omega)]
        have : (0 : Int32).toInt = 0 := rfl
        omega)
      obtain ⟨k, hk, rfl⟩ := nI_of2 (M := nI hi) (n := hi) (nI_toInt (by omega)) n0x (Int32.not_lt.mp g2)
      have hlk : lo ≤ k := by
        rcases Nat.lt_or_ge k lo with z | z
        · exact absurd (nI_lt z (by omega)) g1
        · exact z
      have e : (9999 : Int32) - nI k = nI (9999 - k) := nI_subN (a := 9999) (by omega)
      have h28' : gA M 28 (Int32.toNatClampNeg 0) = nI m := h28
      by_cases g3 : m + k ≤ 9999
      · refine Or.inl ⟨k, hlk, hk, g3, rfl, eq_b (eq_f g1 (eq_f g2 rfl)) (eq_f (show ¬ (1 : Int32) = 0 by decide) (eq_f (by decide) (eq_f ?_ rfl)))⟩
        show ¬ (9999 : Int32) - nI k < gA M 28 (Int32.toNatClampNeg 0)
        rw [h28', e]
        exact fun z => by have := (nI_ltI (by omega) (by omega)).mp z; omega
      · refine Or.inr ⟨Or.inr (Or.inr ⟨k, hlk, hk, rfl, g3⟩), eq_b (eq_f g1 (eq_f g2 rfl)) (eq_f (show ¬ (1 : Int32) = 0 by decide) (eq_f (by decide) (eq_t ?_ rfl)))⟩
        show (9999 : Int32) - nI k < gA M 28 (Int32.toNatClampNeg 0)
        rw [h28', e]
        exact nI_lt (by omega) (by omega)
theorem cMinutes {n0 : Nat} {x : Int32} {MX MY : Mem} (hn : 1700 ≤ n0) (h : R n0 MX MY) : Cal n0 (fX11_minutes n0 x MX) (fX12_minutes n0 x MY) := by
  have h0 := h
  obtain ⟨q, b, T, nr, C, m, pm, s, h⟩ := h
  have hm := h.2.1.1
  have y : gA MY 28 0 = nI m := h.2.2.2.1.1.1
  have bad : ∀ f g, f = fX11_minutes_19 n0 MX → g = (fX12_refuses n0 2 MY).bind (fun z13 => some (z13.1, z13.2)) → Cal n0 f g := fun f g e1 e2 => by
    refine Cal.ref (k := 2) (r := -1) h0 (by decide) (e1.trans ?_) (e2.trans ?_)
    · unfold fX11_minutes_19
      exact eq_b (xref (k := 2) (by decide)) rfl
    · exact eq_b (yref (k := 2) (by decide)) rfl
  unfold fX11_minutes fX12_minutes
  rcases yah (n0 := n0) (lo := 1) (hi := 100) x y hm (by decide) (by decide) with ⟨k, k1, k2, k3, rfl, e⟩ | ⟨z, e⟩
  · rcases ahead2 h k k2 with ⟨_, e1, _⟩ | ⟨g, _⟩
    · obtain ⟨X1, Y1, a1, a2, a3⟩ := remem hn h
      obtain ⟨r, X2, Y2, b1, b2, b3⟩ := mnL hn k2 n0 0 m 0 pm s X1 Y1 (by omega) (by omega) (by omega) a3
      exact ⟨r, X2, Y2, eq_f (fun z => by have := (nI_ltI (b := 1) (by omega) (by decide)).mp z; omega) (eq_f (fun z => by have := (nI_ltI (a := 100) (by decide) (by omega)).mp z; omega) (eq_b e1 (eq_t rfl (eq_b a1 b1)))), eq_b e (eq_f (show ¬ (1 : Int32) = 0 by decide) (eq_b a2 b2)), b3⟩
    · exact absurd k3 g
  · refine bad _ _ ?_ (eq_b e (eq_t rfl rfl))
    rcases z with z | z | ⟨k, k1, k2, rfl, k3⟩
    · exact eq_t z rfl
    · by_cases g : x < 1
      · exact eq_t g rfl
      · exact eq_f g (eq_t z rfl)
    · rcases ahead2 h k k2 with ⟨g, _⟩ | ⟨_, e1, _⟩
      · exact absurd g k3
      · exact eq_f (fun z => by have := (nI_ltI (b := 1) (by omega) (by decide)).mp z; omega) (eq_f (fun z => by have := (nI_ltI (a := 100) (by decide) (by omega)).mp z; omega) (eq_b e1 (eq_f (show ¬ (1 : Int32) = 0 by decide) rfl)))
theorem putAct {n0 q b : Nat} {T : TP} {nr C m c : Nat} {t : Int32} {pm : Nat → Int32 × Nat} {s : Nat × List (Nat × Nat)} {MX MY : Mem} (hn : 1700 ≤ n0) (h : RR n0 q b T nr C m pm s MX MY) (hc : c < T.nc) (ht : tOk T.nt t) : ∃ r X5 Y1 Y2 Y3 Y4 r2, fX11_putByAct n0 (nI c) t MX = some (r, X5) ∧ fX12_keeps n0 MY = some Y1 ∧ fX12_puts n0 0 (nI c) t Y1 = some Y2 ∧ fX12_finishesDoings n0 0 Y2 = some (r2, Y3) ∧ fX12_hour n0 0 (nI c) Y3 = some (r, Y4) ∧ R n0 X5 Y4 := by
  obtain ⟨X1, Y1, a1, a2, a3⟩ := remem hn h
  obtain ⟨X2, Y2, b1, b2, b3⟩ := put2 a3 hc ht
  obtain ⟨r2, X3, Y3, c1, c2, c3⟩ := due2 hn b3
  have hm := c3.2.1.1
  obtain ⟨X4, d1, d2⟩ := xhourAt c3.1.2.2.2.1 c3.2.2.1 c3.2.1.2.1 (by omega) hc
  obtain ⟨_, Y4, e1, e2⟩ := yhr c3.1.2.2.2.2.1 (v := 0) (by decide) c3.2.2.2.1.1 c3.2.1.2.1 (by omega) hc
  refine ⟨_, X4, Y1, Y2, Y3, Y4, r2, ?_, a2, b2, c2, e1, _, _, _, _, _, _, _, _, c3.scr d2.n e2.y⟩
  unfold fX11_putByAct
  exact eq_b a1 (eq_b b1 (eq_b c1 (eq_b d1 rfl)))
theorem cGive {n0 : Nat} {x y : Int32} {MX MY : Mem} (hn : 1700 ≤ n0) (h : R n0 MX MY) : Cal n0 (fX11_give n0 x y MX) (fX12_give n0 x y MY) := by
  have h0 := h
  obtain ⟨q, b, T, nr, C, m, pm, s, h⟩ := h
  have bad : ∀ f g, f = fX11_give_22 n0 MX → g = fX12_give_16 n0 MY → Cal n0 f g := fun f g e1 e2 => by
    refine Cal.ref (k := 3) (r := -1) h0 (by decide) (e1.trans ?_) (e2.trans ?_)
    · unfold fX11_give_22
      exact eq_b (xref (k := 3) (by decide)) rfl
    · unfold fX12_give_16
      exact eq_b (yref (k := 3) (by decide)) rfl
  unfold fX11_give fX12_give
  rcases isCo h.1 x with ⟨k, hk, rfl, e1, e2⟩ | ⟨z, e1, e2⟩
  · rcases isTh h.1 y with ⟨j, hj, rfl, d1, d2⟩ | ⟨z, d1, d2⟩
    · obtain ⟨r, X5, Y1, Y2, Y3, Y4, r2, a1, a2, a3, a4, a5, a6⟩ := putAct hn h hk (t := nI j) (Or.inr ⟨j, hj, rfl⟩)
      exact ⟨r, X5, Y4, eq_b e1 (eq_f (show ¬ (1 : Int32) = 0 by decide) (eq_b d1 (eq_f (show ¬ (1 : Int32) = 0 by decide) (eq_b a1 rfl)))), eq_b e2 (eq_f (show ¬ (1 : Int32) = 0 by decide) (eq_b d2 (eq_f (show ¬ (1 : Int32) = 0 by decide) (eq_b a2 (eq_b a3 (eq_b a4 (eq_b a5 rfl))))))), a6⟩
    · exact bad _ _ (eq_b e1 (eq_f (show ¬ (1 : Int32) = 0 by decide) (eq_b d1 (eq_t rfl rfl)))) (eq_b e2 (eq_f (show ¬ (1 : Int32) = 0 by decide) (eq_b d2 (eq_t rfl rfl))))
  · exact bad _ _ (eq_b e1 (eq_t rfl rfl)) (eq_b e2 (eq_t rfl rfl))
theorem cTake {n0 : Nat} {x : Int32} {MX MY : Mem} (hn : 1700 ≤ n0) (h : R n0 MX MY) : Cal n0 (fX11_take n0 x MX) (fX12_take n0 x MY) := by
  have h0 := h
  obtain ⟨q, b, T, nr, C, m, pm, s, h⟩ := h
  have h5 := h.1.2.2.2.1.2.1.2.1
  have bad : ∀ f g, f = fX11_take_24 n0 MX → g = fX12_take_18 n0 MY → Cal n0 f g := fun f g e1 e2 => by
    refine Cal.ref (k := 3) (r := -1) h0 (by decide) (e1.trans ?_) (e2.trans ?_)
    · unfold fX11_take_24
      exact eq_b (xref (k := 3) (by decide)) rfl
    · unfold fX12_take_18
      exact eq_b (yref (k := 3) (by decide)) rfl
  unfold fX11_take fX12_take
  rcases isCo h.1 x with ⟨k, hk, rfl, e1, e2⟩ | ⟨z, e1, e2⟩
  · have ck : (nI k).toNatClampNeg = k := nI_clamp (by omega)
    have px := (h.2.2.1.2.2.2.1 k hk).1
    have py := (h.2.2.2.1.1.2 k hk).1
    rw [show 5 * 0 + k = k by omega] at py
    by_cases g : (pm k).1 = -1
    · exact bad _ _ (eq_b e1 (eq_f (show ¬ (1 : Int32) = 0 by decide) (eq_f (nI_in (by omega) (by decide)) (eq_t (by rw [ck, px]; exact g) rfl)))) (eq_b e2 (eq_f (show ¬ (1 : Int32) = 0 by decide) (eq_f (nI_in (by omega) (by decide)) (eq_t (by rw [ck, py]; exact g) rfl))))
    · obtain ⟨r, X5, Y1, Y2, Y3, Y4, r2, a1, a2, a3, a4, a5, a6⟩ := putAct hn h hk (t := -1) (Or.inl rfl)
      exact ⟨r, X5, Y4, eq_b e1 (eq_f (show ¬ (1 : Int32) = 0 by decide) (eq_f (nI_in (by omega) (by decide)) (eq_f (by rw [ck, px]; exact g) (eq_b a1 rfl)))), eq_b e2 (eq_f (show ¬ (1 : Int32) = 0 by decide) (eq_f (nI_in (by omega) (by decide)) (eq_f (by rw [ck, py]; exact g) (eq_b a2 (eq_b a3 (eq_b a4 (eq_b a5 rfl))))))), a6⟩
  · exact bad _ _ (eq_b e1 (eq_t rfl rfl)) (eq_b e2 (eq_t rfl rfl))
end
section
/-! MINUTES BY THE SEED -/
theorem lz (k : Nat) : lN k = zL k := (Int64.ofInt_eq_ofNat (n := k)).symm
theorem lAnd (a b : Nat) : lN a &&& lN b = lN (a &&& b) := by
  apply Int64.toBitVec_inj.1
  show BitVec.ofNat 64 a &&& BitVec.ofNat 64 b = BitVec.ofNat 64 (a &&& b)
  exact BitVec.ofNat_and.symm
theorem rem_lN {a b : Nat} (ha : a < 2 ^ 63) (h0 : 0 < b) (hb : b < 2 ^ 63) : rem64 (lN a) (lN b) = lN (a % b) := by
  unfold rem64
  rw [pk_lDiv ha h0 hb, lN_mul, lN_sub (Nat.div_mul_le_self a b)]
  congr 1
  have := Nat.mod_add_div a b
  rw [Nat.mul_comm] at this
  omega
def drw (x : Nat) : Nat := (1103515245 * x + 12345) % 2147483648
theorem drw_lt (x : Nat) : drw x < 2147483648 := Nat.mod_lt _ (by decide)
theorem xdraw {n0 x k : Nat} {M : Mem} (hx : x < 2147483648) (h : gI M 17 = nI x) (hk : 0 < k) (hk2 : k ≤ 100) : fX11_draw n0 (nI k) M = some (nI (drw x / 64 % k), sI M 17 (nI (drw x))) := by
  have hd := drw_lt x
  have e : (((1103515245 : Int64) * (nI x).toInt64 + 12345) &&& 2147483647).toInt32 = nI (drw x) := by
    rw [nI_l (by omega), show (1103515245 : Int64) = lN 1103515245 from rfl, lN_mul, show (12345 : Int64) = lN 12345 from rfl, lN_add, show (2147483647 : Int64) = lN 2147483647 from rfl, lAnd, lN_i]
    unfold drw
    rw [show 2147483647 = 2 ^ 31 - 1 from rfl, Nat.and_two_pow_sub_one_eq_mod]
  unfold fX11_draw
  rw [h, e]
  refine eq_n (eq_f (nI_ge (a := 0) hk (by omega)) (eq_f (by decide) (eq_f (nI_ne0 hk (by omega)) ?_)))
  rw [gI_at, show (64 : Int32) = nI 64 from rfl, nI_div (by omega) (by decide), rem_nI (by omega) (by omega)]
theorem ydraw {n0 x k : Nat} {M : Mem} (hx : x < 2147483648) (h : gL M 55 = zL x) (hk : 0 < k) (hk2 : k ≤ 100) : fX12_draw n0 (nI k) M = some (nI (drw x / 64 % k), sL M 55 (zL (drw x))) := by
  have hd := drw_lt x
  have e : rem64 ((1103515245 : Int64) * gL M 55 + 12345) 2147483648 = lN (drw x) := by
    rw [h, ← lz, show (1103515245 : Int64) = lN 1103515245 from rfl, lN_mul, show (12345 : Int64) = lN 12345 from rfl, lN_add, show (2147483648 : Int64) = lN 2147483648 from rfl, rem_lN (by omega) (by decide) (by decide)]
    rfl
  unfold fX12_draw
  rw [e, ← lz]
  refine eq_f (by decide) (eq_n (eq_f (by decide) (eq_f ?_ ?_)))
  · rw [nI_l (by omega)]
    exact fun z => by
      have := (pk_lEQ (a := k) (b := 0) (by omega) (by decide)).mp z
      omega
  · rw [gL_sL, if_pos rfl, nI_l (by omega), show (64 : Int64) = lN 64 from rfl, pk_lDiv (by omega) (by decide) (by decide), rem_lN (by omega) hk (by omega), lN_i]
/-- a draw on both sides -/
theorem draw2 {n0 q b : Nat} {T : TP} {nr C m k : Nat} {pm : Nat → Int32 × Nat} {s : Nat × List (Nat × Nat)} {MX MY : Mem} (h : RR n0 q b T nr C m pm s MX MY) (hk : 0 < k) (hk2 : k ≤ 100) : ∃ j MX' MY', j < k ∧ fX11_draw n0 (nI k) MX = some (nI j, MX') ∧ fX12_draw n0 (nI k) MY = some (nI j, MY') ∧ RR n0 q b T nr C m pm s MX' MY' := by
  have ho := h.2.2.2.2.2.2
  obtain ⟨x, x1, x2, x3⟩ := ho.1
  refine ⟨drw x / 64 % k, _, _, Nat.mod_lt _ hk, xdraw x1 x2 hk hk2, ydraw x1 x3 hk hk2, h.ou ⟨rfl, fun k z => gI_ne (by omega), fun _ _ => rfl⟩ ⟨fun _ _ => rfl, fun _ _ => rfl, rfl⟩ ⟨⟨drw x, drw_lt x, gI_at, by rw [gL_sL, if_pos rfl]⟩, ho.2.1, ho.2.2.1, ho.2.2.2.1, ho.2.2.2.2.1, ho.2.2.2.2.2⟩⟩
/-- a passer on both sides, as far as doings -/
theorem pass2 {n0 q b : Nat} {T : TP} {nr C m : Nat} {pm : Nat → Int32 × Nat} {s : Nat × List (Nat × Nat)} {MX MY : Mem} (k25 : Int32 → Int32 → Int32 → Mem → Option (Int32 × Mem)) (x1 acc x3 : Int32) (h : RR n0 q b T nr C m pm s MX MY) : ∃ r pm' MX' MY', fX11_letPass n0 MX = some (r, MX') ∧ ((fX12_draw n0 100 MY).bind fun z38 =>
    if oob (gI z38.2 13) 2 then none else
    if (gA z38.2 13 (Int32.toNatClampNeg (gI z38.2 13))) ≤ z38.1 then
      fX12_chance_115 n0 k25 x1 acc x3 z38.2
    else
      if oob (gI z38.2 13) 2 then none else
      if (gA z38.2 5 (Int32.toNatClampNeg (gI z38.2 13))) ≤ 0 then
        fX12_chance_115 n0 k25 x1 acc x3 z38.2
      else
        if oob (gI z38.2 13) 2 then none else
        if (gA z38.2 2 (Int32.toNatClampNeg (gI z38.2 13))) ≤ 0 then
          fX12_chance_115 n0 k25 x1 acc x3 z38.2
        else
          if oob (gI z38.2 13) 2 then none else
          (fX12_draw n0 (gA z38.2 5 (Int32.toNatClampNeg (gI z38.2 13))) z38.2).bind fun z87 =>
          if oob (gI z87.2 13) 2 then none else
          (fX12_draw n0 (gA z87.2 2 (Int32.toNatClampNeg (gI z87.2 13))) z87.2).bind fun z106 =>
          (fX12_puts n0 (0 : Int32) z87.1 z106.1 z106.2).bind fun z109 =>
          fX12_chance_115 n0 k25 x1 (acc + (1 : Int32)) x3 z109) = fX12_chance_115 n0 k25 x1 (acc + r) x3 MY' ∧ RR n0 q b T nr C m pm' s MX' MY' := by
  obtain ⟨j, X1, Y1, j1, j2, j3, j4⟩ := draw2 h (k := 100) (by decide) (by decide)
  have cells : ∀ {X Y : Mem}, RR n0 q b T nr C m pm s X Y → gR X 1 = q ∧ gI X (128 * q + 5) = nI T.nc ∧ gI X (128 * q + 1) = nI T.nt ∧ ¬ oob (gI Y 13) 2 ∧ gA Y 5 (gI Y 13).toNatClampNeg = nI T.nc ∧ gA Y 2 (gI Y 13).toNatClampNeg = nI T.nt := fun {X Y} z => by
    have hb := z.1.2.2.2.2.1.2.2.1
    have h13 := z.1.2.2.2.2.1.2.2.2.1
    have cb : (gI Y 13).toNatClampNeg = b := by rw [h13]; exact nI_clamp (by omega)
    exact ⟨z.1.2.1, z.1.2.2.2.1.2.2.1, z.1.2.2.2.1.1.2.2.1, by rw [h13]; exact nI_in (by omega) (by decide), by rw [cb]; exact z.1.2.2.2.2.1.2.2.2.2.2.1, by rw [cb]; exact z.1.2.2.2.2.1.2.2.2.2.1⟩
  obtain ⟨c1, c2, c3, c4, c5, c6⟩ := cells j4
  obtain ⟨o1, o2, _⟩ := j4.1.2.2.2.1.2.1
  obtain ⟨p, p1, p2, p3⟩ := j4.1.2.2.2.2.2.1.2.2.2.2.2.1
  have hb := j4.1.2.2.2.2.1.2.2.1
  have q13 : gA Y1 13 (gI Y1 13).toNatClampNeg = nI p := by rw [j4.1.2.2.2.2.1.2.2.2.1, nI_clamp (by omega)]; exact p3
  have a0 : acc + 0 = acc := by
    apply Int32.toBitVec_inj.1
    show acc.toBitVec + 0#32 = acc.toBitVec
    exact BitVec.add_zero _
  unfold fX11_letPass
  by_cases g1 : p ≤ j
  · refine ⟨0, pm, X1, Y1, eq_b j2 (eq_t ?_ rfl), eq_b j3 (eq_f c4 (eq_t (by rw [q13]; exact nI_le g1 (by omega)) (by rw [a0]))), j4⟩
    show gI X1 (128 * gR X1 1 + 16) ≤ nI j
    rw [c1, p2]
    exact nI_le g1 (by omega)
  · have n1 : ¬ gI X1 (128 * gR X1 1 + 16) ≤ nI j := by rw [c1, p2]; exact nI_ge (by omega) (by omega)
    have n2 : ¬ gA Y1 13 (gI Y1 13).toNatClampNeg ≤ nI j := by rw [q13]; exact nI_ge (by omega) (by omega)
    by_cases g2 : T.nc = 0
    · refine ⟨0, pm, X1, Y1, eq_b j2 (eq_f n1 (eq_t ?_ rfl)), eq_b j3 (eq_f c4 (eq_f n2 (eq_f c4 (eq_t (by rw [c5, g2]; decide) (by rw [a0]))))), j4⟩
      show gI X1 (128 * gR X1 1 + 5) = 0
      rw [c1, c2, g2]
      rfl
    · have n3 : ¬ gI X1 (128 * gR X1 1 + 5) = 0 := by rw [c1, c2]; exact nI_ne0 (by omega) (by omega)
      have n4 : ¬ gA Y1 5 (gI Y1 13).toNatClampNeg ≤ 0 := by rw [c5]; exact nI_ge (a := 0) (by omega) (by omega)
      by_cases g3 : T.nt = 0
      · refine ⟨0, pm, X1, Y1, eq_b j2 (eq_f n1 (eq_f n3 (eq_t ?_ rfl))), eq_b j3 (eq_f c4 (eq_f n2 (eq_f c4 (eq_f n4 (eq_f c4 (eq_t (by rw [c6, g3]; decide) (by rw [a0]))))))), j4⟩
        show gI X1 (128 * gR X1 1 + 1) = 0
        rw [c1, c3, g3]
        rfl
      · have n5 : ¬ gI X1 (128 * gR X1 1 + 1) = 0 := by rw [c1, c3]; exact nI_ne0 (by omega) (by omega)
        have n6 : ¬ gA Y1 2 (gI Y1 13).toNatClampNeg ≤ 0 := by rw [c6]; exact nI_ge (a := 0) (by omega) (by omega)
        obtain ⟨j', X2, Y2, d1, d2, d3, d4⟩ := draw2 j4 (k := T.nc) (by omega) (by omega)
        obtain ⟨e1, e2, e3, e4, e5, e6⟩ := cells d4
        obtain ⟨j'', X3, Y3, f1, f2, f3, f4⟩ := draw2 d4 (k := T.nt) (by omega) (by omega)
        obtain ⟨X4, Y4, u1, u2, u3⟩ := put2 f4 d1 (t := nI j'') (Or.inr ⟨j'', f1, rfl⟩)
        refine ⟨1, _, X4, Y4, eq_b j2 (eq_f n1 (eq_f n3 (eq_f n5 (eq_b (z := (nI j', X2)) ?_ (eq_b (z := (nI j'', X3)) ?_ (eq_b u1 rfl)))))), eq_b j3 (eq_f c4 (eq_f n2 (eq_f c4 (eq_f n4 (eq_f c4 (eq_f n6 (eq_f c4 (eq_b (z := (nI j', Y2)) ?_ (eq_f e4 (eq_b (z := (nI j'', Y3)) ?_ (eq_b u2 rfl))))))))))), u3⟩
        · show fX11_draw n0 (gI X1 (128 * gR X1 1 + 5)) X1 = _
          rw [c1, c2]
          exact d2
        · show fX11_draw n0 (gI X2 (128 * gR X2 1 + 1)) X2 = _
          rw [e1, e3]
          exact f2
        · show fX12_draw n0 (gA Y1 5 (gI Y1 13).toNatClampNeg) Y1 = _
          rw [c5]
          exact d3
        · show fX12_draw n0 (gA Y2 2 (gI Y2 13).toNatClampNeg) Y2 = _
          rw [e6]
          exact f3
abbrev xhL (n0 : Nat) : Nat → Int32 → Int32 → Int32 → Mem → Option (Int32 × Mem) := loopN (bX11_chance_40 n0) (fun _ _ _ _ => none)
abbrev yhL (n0 : Nat) : Nat → Int32 → Int32 → Int32 → Mem → Option (Int32 × Mem) := loopN (bX12_chance_25 n0) (fun _ _ _ _ => none)
theorem chL {n0 q b : Nat} {T : TP} {nr C n : Nat} (hn : 1700 ≤ n0) (h100 : n ≤ 100) : ∀ w k m (acc : Int32) (pm : Nat → Int32 × Nat) (s : Nat × List (Nat × Nat)) (MX MY : Mem), k ≤ n → n < w + k → m + (n - k) ≤ 9999 → RR n0 q b T nr C m pm s MX MY → ∃ r MX' MY', xhL n0 w (nI n) acc (nI k) MX = some (r, MX') ∧ yhL n0 w (nI n) acc (nI k) MY = some (r, MY') ∧ R n0 MX' MY'
  | 0, k, _, _, _, _, _, _, hk, hw, _, _ => by omega
  | w + 1, k, m, acc, pm, s, MX, MY, hk, hw, hm, h => by
    show ∃ r MX' MY', bX11_chance_40 n0 (xhL n0 w) (nI n) acc (nI k) MX = _ ∧ bX12_chance_25 n0 (yhL n0 w) (nI n) acc (nI k) MY = _ ∧ _
    unfold bX11_chance_40 bX12_chance_25
    by_cases g : k = n
    · rw [g]
      exact ⟨acc, MX, MY, eq_t (Int32.le_refl _) rfl, eq_t (Int32.le_refl _) rfl, q, b, T, nr, C, m, pm, s, h⟩
    · have hc : ¬ nI n ≤ nI k := nI_ge (by omega) (by omega)
      obtain ⟨X1, Y1, a1, a2, a3⟩ := tick2 hn h (by omega)
      obtain ⟨r, pm', X2, Y2, b1, b2, b3⟩ := pass2 (yhL n0 w) (nI n) acc (nI k) a3
      obtain ⟨r2, X3, Y3, c1, c2, c3⟩ := due2 hn b3
      obtain ⟨r', X4, Y4, d1, d2, d3⟩ := chL hn h100 w (k + 1) (m + 1) (acc + r) _ _ X3 Y3 (by omega) (by omega) (by omega) c3
      have k1 : nI k + 1 = nI (k + 1) := nI_add k 1
      refine ⟨r', X4, Y4, eq_f hc (eq_b a1 (eq_b b1 (eq_n (eq_b c1 ?_)))), eq_f hc (eq_b a2 (b2.trans ?_)), d3⟩
      · rw [k1]; exact d1
      · unfold fX12_chance_115
        refine eq_b c2 ?_
        rw [k1]; exact d2
theorem cChance {n0 : Nat} {x : Int32} {MX MY : Mem} (hn : 1700 ≤ n0) (h : R n0 MX MY) : Cal n0 (fX11_chance n0 x MX) (fX12_chance n0 x MY) := by
  have h0 := h
  obtain ⟨q, b, T, nr, C, m, pm, s, h⟩ := h
  have hm := h.2.1.1
  have y : gA MY 28 0 = nI m := h.2.2.2.1.1.1
  have bad : ∀ f g, f = fX11_chance_19 n0 MX → g = (fX12_refuses n0 2 MY).bind (fun z13 => some (z13.1, z13.2)) → Cal n0 f g := fun f g e1 e2 => by
    refine Cal.ref (k := 2) (r := -1) h0 (by decide) (e1.trans ?_) (e2.trans ?_)
    · unfold fX11_chance_19
      exact eq_b (xref (k := 2) (by decide)) rfl
    · exact eq_b (yref (k := 2) (by decide)) rfl
  unfold fX11_chance fX12_chance
  rcases yah (n0 := n0) (lo := 1) (hi := 100) x y hm (by decide) (by decide) with ⟨k, k1, k2, k3, rfl, e⟩ | ⟨z, e⟩
  · rcases ahead2 h k k2 with ⟨_, e1, _⟩ | ⟨g, _⟩
    · obtain ⟨X1, Y1, a1, a2, a3⟩ := remem hn h
      obtain ⟨r, X2, Y2, b1, b2, b3⟩ := chL hn k2 n0 0 m 0 pm s X1 Y1 (by omega) (by omega) (by omega) a3
      exact ⟨r, X2, Y2, eq_f (fun z => by have := (nI_ltI (b := 1) (by omega) (by decide)).mp z; omega) (eq_f (fun z => by have := (nI_ltI (a := 100) (by decide) (by omega)).mp z; omega) (eq_b e1 (eq_t rfl (eq_b a1 b1)))), eq_b e (eq_f (show ¬ (1 : Int32) = 0 by decide) (eq_b a2 b2)), b3⟩
    · exact absurd k3 g
  · refine bad _ _ ?_ (eq_b e (eq_t rfl rfl))
    rcases z with z | z | ⟨k, k1, k2, rfl, k3⟩
    · exact eq_t z rfl
    · by_cases g : x < 1
      · exact eq_t g rfl
      · exact eq_f g (eq_t z rfl)
    · rcases ahead2 h k k2 with ⟨g, _⟩ | ⟨_, e1, _⟩
      · exact absurd g k3
      · exact eq_f (fun z => by have := (nI_ltI (b := 1) (by omega) (by decide)).mp z; omega) (eq_f (fun z => by have := (nI_ltI (a := 100) (by decide) (by omega)).mp z; omega) (eq_b e1 (eq_f (show ¬ (1 : Int32) = 0 by decide) rfl)))
end
section
/-! A TOWN ON BOTH SIDES, FROM THE CALL TO ITS ANSWER -/
abbrev xbD (n0 q1 : Nat) : Nat → Int32 → Mem → Option Mem := loopN (bX6_begin_50 n0 q1) (fun _ _ => none)
theorem xb50 {n0 q1 nd : Nat} (h6 : nd ≤ 6) : ∀ w d M, d ≤ nd → nd < w + d → gI M (128 * gR M 1280 + 12) = nI nd → ∃ M', xbD n0 q1 w (nI d) M = some M' ∧ (∀ e, d ≤ e → e < nd → gA M' 13 e = 0) ∧ gR M' = gR M ∧ gL M' = gL M ∧ gB M' = gB M ∧ gI M' = gI M ∧ ∀ a i, ¬ (a = 13 ∧ d ≤ i) → gA M' a i = gA M a i
  | 0, d, M, hd, hw, _ => by omega
  | w + 1, d, M, hd, hw, h12 => by
    show ∃ M', bX6_begin_50 n0 q1 (xbD n0 q1 w) (nI d) M = _ ∧ _
    unfold bX6_begin_50
    by_cases g : d = nd
    · exact ⟨M, eq_t (by rw [h12, g]; exact Int32.le_refl _) rfl, fun e h1 h2 => by omega, rfl, rfl, rfl, rfl, fun _ _ _ => rfl⟩
    · have cd : (nI d).toNatClampNeg = d := nI_clamp (by omega)
      obtain ⟨M', r1, r2, r3, r4, r5, r6, r7⟩ := xb50 h6 w (d + 1) (sA M 13 d 0) (by omega) (by omega) h12
      refine ⟨M', eq_f (by rw [h12]; exact nI_ge (by omega) (by omega)) (eq_f (nI_in (by omega) (by decide)) (eq_e (v' := sA M 13 d 0) (by rw [cd]) ?_)), fun e h1 h2 => ?_, r3, r4, r5, r6, fun a i z => ?_⟩
      · rw [show nI d + 1 = nI (d + 1) from nI_add d 1]
        exact r1
      · by_cases h : e = d
        · rw [h, r7 13 d (by omega), gA_sA, if_pos rfl, if_pos rfl]
        · exact r2 e (by omega) h2
      · rw [r7 a i (by omega), gA_sA]
        by_cases h : a = 13
        · rw [if_pos h, if_neg (by omega), h]
        · rw [if_neg h]
abbrev xbC (n0 q1 : Nat) : Nat → Int32 → Mem → Option Mem := loopN (bX6_begin_17 n0 q1) (fun _ _ => none)
theorem xb17 {n0 q1 nc nd : Nat} {pa : Nat → Int32} (hn : 1700 ≤ n0) (h5 : nc ≤ 5) (h6 : nd ≤ 6) : ∀ w c M, c ≤ nc → nc < w + c → gI M (128 * gR M 1280 + 5) = nI nc → gI M (128 * gR M 1280 + 12) = nI nd → 15 < gR M 1280 → (∀ j, j < nc → gA M (gR M 1280 + 5) j = pa j) → ∃ M', xbC n0 q1 w (nI c) M = some M' ∧ (∀ j, c ≤ j → j < nc → gA M' 11 j = pa j ∧ gA M' 12 j = 0) ∧ (∀ e, e < nd → gA M' 13 e = 0) ∧ gR M' = gR M ∧ gL M' = gL M ∧ gB M' = gB M ∧ gI M' = gI M ∧ ∀ a i, ¬ (a = 13 ∨ ((a = 11 ∨ a = 12) ∧ c ≤ i)) → gA M' a i = gA M a i
  | 0, c, M, hc, hw, _, _, _, _ => by omega
  | w + 1, c, M, hc, hw, e5, e12, hq, hp => by
    show ∃ M', bX6_begin_17 n0 q1 (xbC n0 q1 w) (nI c) M = _ ∧ _
    unfold bX6_begin_17
    by_cases g : c = nc
    · obtain ⟨M', r1, r2, r3, r4, r5, r6, r7⟩ := xb50 (n0 := n0) (q1 := q1) h6 n0 0 M (by omega) (by omega) e12
      exact ⟨M', eq_t (by rw [e5, g]; exact Int32.le_refl _) r1, fun j h1 h2 => by omega, fun e he => r2 e (by omega) he, r3, r4, r5, r6, fun a i z => r7 a i (by omega)⟩
    · have cc : (nI c).toNatClampNeg = c := nI_clamp (by omega)
      have pt : fX6_put n0 (nI c) (gA M (gR M 1280 + 5) (nI c).toNatClampNeg) M = some (sA (sA M 11 c (pa c)) 12 c 0) := by
        rw [cc, hp c (by omega)]
        unfold fX6_put
        simp only [cc]
        exact eq_f (nI_nn (by omega)) (eq_f (nI_ge (b := 5) (by omega) (by decide)) (eq_f (nI_in (by omega) (by decide)) (eq_n (eq_f (nI_in (by omega) (by decide)) rfl))))
      obtain ⟨M', r1, r2, r3, r4, r5, r6, r7, r8⟩ := xb17 (pa := pa) hn h5 h6 w (c + 1) (sA (sA M 11 c (pa c)) 12 c 0) (by omega) (by omega) e5 e12 hq (fun j hj => by
        show gA (sA (sA M 11 c (pa c)) 12 c 0) (gR M 1280 + 5) j = _
        rw [gA_sA_ne (by omega), gA_sA_ne (by omega)]
        exact hp j hj)
      refine ⟨M', eq_f (by rw [e5]; exact nI_ge (by omega) (by omega)) (eq_f (nI_in (by omega) (by decide)) (eq_b pt ?_)), fun j h1 h2 => ?_, r3, r4, r5, r6, r7, fun a i z => ?_⟩
      · rw [show nI c + 1 = nI (c + 1) from nI_add c 1]
        exact r1
      · by_cases h : j = c
        · rw [h, r8 11 c (by omega), r8 12 c (by omega), gA_sA_ne (by decide), gA_sA, if_pos rfl, if_pos rfl, gA_sA, if_pos rfl, if_pos rfl]
          exact ⟨rfl, rfl⟩
        · exact r2 j (by omega) h2
      · rw [r8 a i (by omega), gA_sA]
        by_cases h : a = 12
        · rw [if_pos h, if_neg (by omega), gA_sA_ne (by decide), h]
        · rw [if_neg h, gA_sA]
          by_cases h' : a = 11
          · rw [if_pos h', if_neg (by omega), h']
          · rw [if_neg h']
abbrev ybC (n0 : Nat) : Nat → Int32 → Mem → Option Mem := loopN (bX12_begin_16 n0) (fun _ _ => none)
theorem yb16 {n0 b nc : Nat} {pa : Nat → Int32} (h5 : nc ≤ 5) (hb : b ≤ 1) : ∀ w c M, c ≤ nc → nc < w + c → gI M 13 = nI b → gA M 5 b = nI nc → (∀ j, j < nc → gA M 6 (5 * b + j) = pa j) → ∃ M', ybC n0 w (nI c) M = (fX12_finishesDoings n0 0 (sI (sI (sA M' 32 0 0) 54 0) 61 0)).bind (fun z => some z.2) ∧ (∀ j, c ≤ j → j < nc → gA M' 29 j = pa j ∧ gA M' 30 j = 0) ∧ gR M' = gR M ∧ gL M' = gL M ∧ gB M' = gB M ∧ gI M' = gI M ∧ ∀ a i, ¬ ((a = 29 ∨ a = 30) ∧ c ≤ i ∧ i < 5) → gA M' a i = gA M a i
  | 0, c, M, hc, hw, _, _, _ => by omega
  | w + 1, c, M, hc, hw, h13, e5, hp => by
    show ∃ M', bX12_begin_16 n0 (ybC n0 w) (nI c) M = _ ∧ _
    have cb : (nI b).toNatClampNeg = b := nI_clamp (by omega)
    have o13 : ¬ oob (gI M 13) 2 := by rw [h13]; exact nI_in (by omega) (by decide)
    have q5 : gA M 5 (gI M 13).toNatClampNeg = nI nc := by rw [h13, cb]; exact e5
    unfold bX12_begin_16
    by_cases g : c = nc
    · exact ⟨M, eq_f o13 (eq_t (by rw [q5, g]; exact Int32.le_refl _) (eq_f (by decide) rfl)), fun j h1 h2 => by omega, rfl, rfl, rfl, rfl, fun _ _ _ => rfl⟩
    · have cc : (nI c).toNatClampNeg = c := nI_clamp (by omega)
      have c5 : (nI (5 * b + c)).toNatClampNeg = 5 * b + c := nI_clamp (by omega)
      have ix : (5 : Int32) * gI M 13 + nI c = nI (5 * b + c) := by rw [h13, yIx]
      obtain ⟨M', r1, r2, r3, r4, r5, r6, r7⟩ := yb16 (n0 := n0) (pa := pa) h5 hb w (c + 1) (sA (sA M 29 c (pa c)) 30 c 0) (by omega) (by omega) h13 (by rw [gA_sA_ne (by decide), gA_sA_ne (by decide)]; exact e5) (fun j hj => by rw [gA_sA_ne (by decide), gA_sA_ne (by decide)]; exact hp j hj)
      refine ⟨M', eq_f o13 (eq_f (by rw [q5]; exact nI_ge (by omega) (by omega)) (eq_f (by rw [ix]; exact nI_in (by omega) (by decide)) (eq_f (nI_in (by omega) (by decide)) (eq_e (v' := sA M 29 c (pa c)) (by rw [ix, cc, c5, hp c (by omega)]) (eq_f (nI_in (by omega) (by decide)) (eq_e (v' := sA (sA M 29 c (pa c)) 30 c 0) (by rw [cc]) ?_)))))), fun j h1 h2 => ?_, r3, r4, r5, r6, fun a i z => ?_⟩
      · rw [show nI c + 1 = nI (c + 1) from nI_add c 1]
        exact r1
      · by_cases h : j = c
        · rw [h, r7 29 c (by omega), r7 30 c (by omega), gA_sA_ne (by decide), gA_sA, if_pos rfl, if_pos rfl, gA_sA, if_pos rfl, if_pos rfl]
          exact ⟨rfl, rfl⟩
        · exact r2 j (by omega) h2
      · rw [r7 a i (by omega), gA_sA]
        by_cases h : a = 30
        · rw [if_pos h, if_neg (by omega), gA_sA_ne (by decide), h]
        · rw [if_neg h, gA_sA]
          by_cases h' : a = 29
          · rw [if_pos h', if_neg (by omega), h']
          · rw [if_neg h']
theorem TownR.nine {q b nt nc nd nr C : Nat} {MX MY MY' : Mem} (h : TownR q b nt nc nd nr C MX MY) (hA : ∀ a, ¬ a = 9 → gA MY' a = gA MY a) (hB : gB MY' = gB MY) : TownR q b nt nc nd nr C MX MY' := by
  have h2 : TownR q b nt nc nd nr C MX (sF MY' 9 (gA MY 9)) := h.cong (fun _ _ _ => rfl) (fun _ _ _ => rfl) (fun a i _ _ => by
    rw [gA_sF]
    by_cases z : a = 9
    · rw [if_pos z, z]
    · rw [if_neg z, hA a z]) (fun a i _ => by
    show gB MY' a i = gB MY a i
    rw [hB])
  exact h2
/-- a town's functions out of the town that was read -/
theorem townT {n0 q b nt nc nd nr C : Nat} {MX MY : Mem} (hn : 1700 ≤ n0) (hT : TownR q b nt nc nd nr C MX MY) (hq : q = 31 ∨ q = 47) (hb : b ≤ 1) (h13 : gI MY 13 = nI b) : ∃ T : TP, T.nt = nt ∧ T.nc = nc ∧ T.nd = nd ∧ XT n0 q T MX ∧ YT n0 b T MY := by
  obtain ⟨hF, gF, fx, fy⟩ := townF hn hT hq hb
  obtain ⟨⟨⟨a1, a2, a3⟩, ⟨a4, a5, a6⟩, ⟨a7, a8, a9⟩⟩, b1, b2, b3, _⟩ := hT
  have t6 := a3.1
  have c5 := a6.1
  have d6 := a9.1
  have dk : ∀ d, d < nd → gA MX (q + 10) d = nI (gA MX (q + 10) d).toNatClampNeg ∧ (gA MX (q + 10) d).toNatClampNeg < nc ∧ gA MX (q + 11) d = nI (gA MX (q + 11) d).toNatClampNeg ∧ (gA MX (q + 11) d).toNatClampNeg ≤ 23 ∧ gA MY 11 (6 * b + d) = gA MX (q + 10) d ∧ gA MY 12 (6 * b + d) = gA MX (q + 11) d := fun d hd => by
    obtain ⟨e1, ⟨k, k1, k2⟩, e2, ⟨v, v1, v2⟩⟩ := b3 d hd
    refine ⟨?_, ?_, ?_, ?_, e1.symm, e2.symm⟩
    · rw [k2, nI_clamp (by omega)]
    · rw [k2, nI_clamp (by omega)]; exact k1
    · rw [v2, nI_clamp (by omega)]
    · rw [v2, nI_clamp (by omega)]; exact v1
  have ok : TP.ok (nt, nc, nd, (fun d => (gA MX (q + 10) d).toNatClampNeg), (fun d => (gA MX (q + 11) d).toNatClampNeg), hF, gF) := ⟨t6, c5, d6, fun d hd => ⟨(dk d hd).2.1, (dk d hd).2.2.2.1⟩⟩
  exact ⟨(nt, nc, nd, (fun d => (gA MX (q + 10) d).toNatClampNeg), (fun d => (gA MX (q + 11) d).toNatClampNeg), hF, gF), rfl, rfl, rfl, ⟨⟨hq, t6, a1, fx⟩, ok, a4, a7, fun d hd => ⟨(dk d hd).1, (dk d hd).2.2.1⟩⟩, ⟨fy, ok, hb, h13, a2, a5, a8, fun d hd => ⟨(dk d hd).2.2.2.2.1.trans (dk d hd).1, (dk d hd).2.2.2.2.2.trans (dk d hd).2.2.1⟩⟩⟩
end
section
/-! A TOWN ON BOTH SIDES: the call -/
theorem zbit (e : Nat) : nI (0 / 2 ^ e % 2) = 0 := by rw [Nat.zero_div]; rfl
theorem townGood {n0 q b L sx nt nc nd nr C j x0 f : Nat} {MX MY X1 Y1 : Mem} (hn : 1700 ≤ n0) (hq : q = 31 ∨ q = 47) (hb : b ≤ 1) (hR1 : gR MX 1 = 78 - q) (hR2 : gR MX 2 = q) (ho : RO MX MY) (hx0 : x0 < 20) (hf : f < 20) (u1 : gI MX 2049 = nI x0) (u2 : gI MY 53 = nI f)
    (k1 : fX4_read n0 q MX = some (1, X1)) (k2 : fX12_town n0 MY = fX12_town_196 n0 (nI j) Y1) (k4 : Rd L sx q b nt nc nd nr C X1 Y1) (k5 : gI X1 (128 * q) = nI j) (fX : FX4 q MX X1) (fY : FY4 b MY Y1) (y1 : gI Y1 1 = 0) : Cal n0 (fX11_town n0 MX) (fX12_town n0 MY) := by
  obtain ⟨⟨_, _, x391, x392, y8, y9⟩, ⟨_, _, at3, _⟩, hTR, _, _⟩ := k4
  have g1 : gR X1 1 = 78 - q := (fX.2.2 1 (by decide) (by decide)).trans hR1
  have g2 : gR X1 2 = q := (fX.2.2 2 (by decide) (by decide)).trans hR2
  -- the class, as far as its begin
  have hX2 : ∃ X2, X2 = sR (sR (sI (sI (sI X1 641 0) 15 0) 16 (-1)) 1 q) 2 (78 - q) := ⟨_, rfl⟩
  obtain ⟨X2, eX2⟩ := hX2
  have hX4 : ∃ X4, X4 = sI (sI (sR (sR X2 896 q) 1280 q) 1281 0) 1285 0 := ⟨_, rfl⟩
  obtain ⟨X4, eX4⟩ := hX4
  have r1 : gR X4 1 = q := by rw [eX4, eX2]; rfl
  have r2 : gR X4 2 = 78 - q := by rw [eX4, eX2]; rfl
  have r3 : gR X4 896 = q := by rw [eX4]; rfl
  have r4 : gR X4 1280 = q := by rw [eX4]; rfl
  have i4 : ∀ k, ¬ (k = 641 ∨ k = 15 ∨ k = 16 ∨ k = 1281 ∨ k = 1285) → gI X4 k = gI X1 k := fun k z => by
    rw [eX4, gI_ne (by omega), gI_ne (by omega)]
    show gI X2 k = _
    rw [eX2]
    show gI (sI (sI (sI X1 641 0) 15 0) 16 (-1)) k = _
    rw [gI_ne (by omega), gI_ne (by omega), gI_ne (by omega)]
  have a4 : gA X4 = gA X1 := by rw [eX4, eX2]; rfl
  have tw4 : xTw q X1 X4 := ⟨fun k z _ => i4 k (by omega), fun a _ _ => by rw [a4]⟩
  -- the reference, as far as its begin
  have hY2 : ∃ Y2, Y2 = sI (sI Y1 10 0) 11 (-1) := ⟨_, rfl⟩
  obtain ⟨Y2, eY2⟩ := hY2
  obtain ⟨Y3, m1, m2, m3, m4, m5, m6⟩ := measures (n0 := n0) (b := b) (M := Y2) hn hb (by rw [eY2, gI_ne (by decide), gI_ne (by decide)]; exact at3)
  have hY4 : ∃ Y4, Y4 = sI Y3 13 (nI b) := ⟨_, rfl⟩
  obtain ⟨Y4, eY4⟩ := hY4
  have A4 : ∀ a, ¬ a = 9 → gA Y4 a = gA Y1 a := fun a z => by
    rw [eY4]
    show gA Y3 a = _
    funext i
    rw [m6 a i (fun y => z y.1), eY2]
    rfl
  have B4 : gB Y4 = gB Y1 := by rw [eY4]; show gB Y3 = _; rw [m5, eY2]; rfl
  have L4 : gL Y4 = gL Y1 := by rw [eY4]; show gL Y3 = _; rw [m4, eY2]; rfl
  have I4 : ∀ k, ¬ (k = 10 ∨ k = 11 ∨ k = 13) → gI Y4 k = gI Y1 k := fun k z => by
    rw [eY4, gI_ne (by omega), m2, eY2, gI_ne (by omega), gI_ne (by omega)]
  have I13 : gI Y4 13 = nI b := by rw [eY4, gI_at]
  have TR4 : TownR q b nt nc nd nr C X4 Y4 := (hTR.tw tw4 yTw.r).nine A4 B4
  obtain ⟨T, t1, t2, t3, t4, t5⟩ := townT hn TR4 hq hb I13
  subst t1 t2 t3
  have ok := t4.2.1
  obtain ⟨o1, o2, o3, _⟩ := ok
  have pmD := TR4.2.2.1
  -- the class begins
  obtain ⟨X5, c1, c2, c3, c4, c5, c6, c7, c8⟩ := xb17 (n0 := n0) (q1 := q) (pa := gA X4 (q + 5)) hn o2 o3 n0 0 X4 (by omega) (by omega) (by rw [r4]; exact t4.2.2.1) (by rw [r4]; exact t4.2.2.2.1) (by rw [r4]; omega) (fun j _ => by rw [r4])
  have tw5 : xTw q X4 X5 := ⟨fun k _ _ => by rw [c7], fun a z1 z2 => by funext i; exact c8 a i (by omega)⟩
  have T5 := t4.tw tw5
  have S5 : SX q T.nc T.nd 0 (fun c => (gA X4 (q + 5) c, 0)) (0, []) X5 := by
    refine ⟨by rw [c4]; exact r3, by rw [c4]; exact r4, by rw [c7, eX4, gI_ne (by decide), gI_at]; rfl, fun c hc => c2 c (by omega) hc, fun d hd => ?_, by rw [c7, eX4, gI_at]; rfl, fun i p hp => by simp at hp⟩
    rw [c3 d hd]
    exact (zbit d).symm
  have Ps : PsO T.nt T.nc (fun c => (gA X4 (q + 5) c, 0)) := fun c hc => ⟨(pmD c hc).2, Nat.zero_le _⟩
  have sO : sOk T.nd (0, []) := ⟨Nat.pow_pos (by decide), Nat.zero_le _⟩
  obtain ⟨X6, d1, d2, d3⟩ := xfin hn T5 S5 Ps (by omega) sO
  -- the reference begins
  obtain ⟨Y5, e1, e2, e3, e4, e5, e6, e7⟩ := yb16 (n0 := n0) (b := b) (nc := T.nc) (pa := gA X4 (q + 5)) o2 hb n0 0 (sA (sA Y4 28 0 0) 31 0 0) (by omega) (by omega) I13 (by rw [gA_sA_ne (by decide), gA_sA_ne (by decide)]; exact t5.2.2.2.2.2.1) (fun j hj => by rw [gA_sA_ne (by decide), gA_sA_ne (by decide)]; exact (pmD j hj).1.symm)
  have hY6 : ∃ Y6, Y6 = sI (sI (sA Y5 32 0 0) 54 0) 61 0 := ⟨_, rfl⟩
  obtain ⟨Y6, eY6⟩ := hY6
  rw [← eY6] at e1
  have A6 : ∀ a, ¬ (28 ≤ a ∧ a ≤ 32) → gA Y6 a = gA Y4 a := fun a z => by
    rw [eY6]
    show gA (sA Y5 32 0 0) a = _
    rw [gA_sA_ne (by omega)]
    funext i
    rw [e7 a i (by omega), gA_sA_ne (by omega), gA_sA_ne (by omega)]
  have I6 : ∀ k, ¬ (k = 54 ∨ k = 61) → gI Y6 k = gI Y4 k := fun k z => by
    rw [eY6, gI_ne (by omega), gI_ne (by omega)]
    show gI Y5 k = _
    rw [e6]
    rfl
  have B6 : gB Y6 = gB Y4 := by rw [eY6]; show gB Y5 = _; rw [e5]; rfl
  have L6 : gL Y6 = gL Y4 := by rw [eY6]; show gL Y5 = _; rw [e4]; rfl
  have T6 : YT n0 b T Y6 := t5.tw (yTw.all (fun a z1 z2 => A6 a (by omega)) (fun a _ _ => by rw [B6])) (I6 13 (by decide))
  have L6d : LyD 0 T.nc 0 (fun c => (gA X4 (q + 5) c, 0)) (0, []) Y6 := by
    refine ⟨⟨?_, fun c hc => ?_⟩, ?_, ?_, fun i p hp => by simp at hp⟩
    · rw [eY6]
      show gA (sA Y5 32 0 0) 28 0 = _
      rw [gA_sA_ne (by decide), e7 28 0 (by omega), gA_sA_ne (by decide), gA_sA, if_pos rfl, if_pos rfl]
      rfl
    · rw [eY6]
      show gA (sA Y5 32 0 0) 29 (5 * 0 + c) = _ ∧ gA (sA Y5 32 0 0) 30 (5 * 0 + c) = _
      rw [gA_sA_ne (by decide), gA_sA_ne (by decide), show 5 * 0 + c = c by omega]
      exact e2 c (by omega) hc
    · rw [eY6]
      show gA (sA Y5 32 0 0) 31 0 = _
      rw [gA_sA_ne (by decide), e7 31 0 (by omega), gA_sA, if_pos rfl, if_pos rfl]
      rfl
    · rw [eY6]
      show gA (sA Y5 32 0 0) 32 0 = _
      rw [gA_sA, if_pos rfl, if_pos rfl]
      rfl
  obtain ⟨Y7, z1, z2, z3⟩ := yfinD (v := 0) hn T6 (by decide) L6d Ps sO (by omega)
  -- both calls
  have hX7 : ∃ X7, X7 = sI (sI X6 2050 0) 2688 0 := ⟨_, rfl⟩
  obtain ⟨X7, eX7⟩ := hX7
  have rX6 : gR X6 = gR X4 := d3.1.trans c4
  have iX6 : ∀ k, ¬ ((897 ≤ k ∧ k ≤ 900) ∨ k = 903 ∨ stI k) → gI X6 k = gI X4 k := fun k z => (d3.2.2.2.2 k z).trans (by rw [c7])
  have aX6 : ∀ a, ¬ (a = 8 ∨ a = 9 ∨ stA a) → gA X6 a = gA X1 a := fun a z => (d3.2.2.2.1 a z).trans (by funext i; rw [c8 a i (by unfold stA at z; omega), a4])
  have iX7 : ∀ k, ¬ (k = 2050 ∨ k = 2688) → gI X7 k = gI X6 k := fun k z => by rw [eX7, gI_ne (by omega), gI_ne (by omega)]
  have aX7 : gA X7 = gA X6 := by rw [eX7]; rfl
  have rX7 : gR X7 = gR X6 := by rw [eX7]; rfl
  have tw7 : xTw q X4 X7 := ⟨fun k p1 p2 => (iX7 k (by omega)).trans (iX6 k (by unfold stI; omega)), fun a p1 p2 => by rw [aX7, aX6 a (by unfold stA; omega), a4]⟩
  have cX : fX11_town n0 MX = some (nI j, X7) := by
    unfold fX11_town
    rw [hR2]
    refine eq_b k1 (eq_n (eq_e (v' := sI (sI X1 641 0) 15 0) ?_ (eq_e (v' := sI (sI (sI X1 641 0) 15 0) 16 (-1)) ?_ (eq_f (show ¬ (1 : Int32) = 0 by decide) (eq_e (v' := sR (sI (sI (sI X1 641 0) 15 0) 16 (-1)) 1 q) ?_ (eq_e (v' := X2) ?_ (eq_b (z := X7) ?_ ?_)))))))
    · rw [gI_ne (by decide), x391]
    · rw [gI_ne (by decide), gI_ne (by decide), x392]
    · rw [show gR (sI (sI (sI X1 641 0) 15 0) 16 (-1)) 2 = q from g2]
    · rw [show gR (sI (sI (sI X1 641 0) 15 0) 16 (-1)) 1 = 78 - q from g1, eX2]
    · unfold fX11_begin
      have rr : gR X2 1 = q := by rw [eX2]; rfl
      rw [rr]
      refine eq_n (eq_b (z := X5) ?_ (eq_b d1 (eq_n ?_)))
      · rw [show gR (sR X2 896 q) 1 = q from rr]
        unfold fX6_begin
        refine eq_n (eq_n (eq_e (v' := X4) (by rw [eX4]) c1))
      · rw [eX7]
    · rw [show gR X7 1 = q by rw [rX7, rX6]; exact r1, Nat.add_zero, iX7 _ (by omega), iX6 _ (by unfold stI; omega), i4 _ (by omega), k5]
  have cY : fX12_town n0 MY = some (nI j, Y7) := by
    rw [k2]
    unfold fX12_town_196
    refine eq_e (v' := sI Y1 10 0) (by rw [y8]) (eq_e (v' := Y2) ?_ (eq_t ?_ (eq_b m1 (eq_e (v' := Y4) ?_ (eq_b (z := Y7) ?_ rfl)))))
    · rw [gI_ne (by decide), y9, eY2]
    · rw [eY2, gI_ne (by decide), gI_ne (by decide), y8]; decide
    · rw [eY4, m2, eY2, gI_ne (by decide), gI_ne (by decide), at3]
    · unfold fX12_begin
      exact eq_f (by decide) (eq_n (eq_f (by decide) (eq_n (Eq.trans e1 (eq_b z1 rfl)))))
  have xI : ∀ k, k = 14 ∨ k = 17 ∨ k = 2049 → gI X7 k = gI MX k := fun k z => (iX7 k (by omega)).trans ((iX6 k (by unfold stI; omega)).trans ((i4 k (by omega)).trans (fX.1 k (by unfold rgX; omega))))
  have xA : ∀ a, a = 4 ∨ a = 6 ∨ a = 29 ∨ a = 30 → gA X7 a = gA MX a := fun a z => by rw [aX7, aX6 a (by unfold stA; omega)]; exact fX.2.1 a (by omega)
  have iY7 : ∀ k, gI Y7 k = gI Y6 k := fun k => by rw [z3.2.2.1]
  have yA : ∀ a, a = 1 ∨ a = 27 ∨ a = 43 → gA Y7 a = gA MY a := fun a z => by
    rw [z3.gA (fun i y => by unfold lP tP dP at y; omega) (by omega), A6 a (by omega), A4 a (by omega)]
    funext i
    exact fY.2.1 a i (by unfold regA; omega)
  have TR7 : TownR q b T.nt T.nc T.nd nr C X7 Y7 := TR4.tw tw7 (yTw.all (fun a p1 p2 => by rw [z3.gA (fun i y => by unfold lP tP dP at y; omega) (by omega), A6 a (by omega)]) (fun a p1 p2 => by rw [z3.2.2.2.2 a (by omega), B6]))
  obtain ⟨h1, h2, h3, h4, h5, h6⟩ := ho
  refine ⟨nI j, X7, Y7, cX, cY, q, b, T, nr, C, 0, (fun c => (gA X4 (q + 5) c, 0)), fnS (due T (fun c => (gA X4 (q + 5) c, 0)) 0) 0 (0, []) T.nd, ⟨hq, by rw [rX7, rX6]; exact r1, by rw [rX7, rX6]; exact r2, t4.tw tw7, T6.yf z3 lP28, TR7, rfl, rfl, rfl⟩, ⟨by omega, Ps, fnS_ok o3 sO _ (Nat.le_refl _)⟩, d2.cgs rX7 (iX7 1281 (by decide)) (iX7 1285 (by decide)) (fun a _ _ => by rw [aX7]), z2, ?_, ?_, ?_, ?_, ?_, ?_, ?_, ?_⟩
  · refine ⟨x0, f, 0, fun _ => (0, (fun _ => (-1, 0)), 0, 0), hx0, hf, by omega, ?_, ?_, ?_, ?_, fun i hi => by omega, fun i j _ hj => by omega⟩
    · rw [xI 2049 (by omega), u1, Nat.add_zero, Nat.mod_eq_of_lt hx0]
    · rw [eX7, gI_ne (by decide), gI_at]; rfl
    · rw [iY7, I6 53 (by decide), I4 53 (by decide), fY.1 53 (by unfold regI; omega)]; exact u2
    · rw [iY7, eY6, gI_ne (by decide), gI_at]; rfl
  · exact ⟨0, by omega, by rw [eX7, gI_at]; rfl, by rw [iY7, eY6, gI_at]; rfl, fun k hk => by omega⟩
  · exact h1.cg (xI 17 (by omega)) (by rw [z3.2.1, L6, L4]; exact fY.2.2.1 55 (by decide))
  · exact h2.cg (xI 14 (by omega)) (by rw [iY7, I6 67 (by decide), I4 67 (by decide)]; exact fY.1 67 (by unfold regI; omega)) (xA 29 (by omega)) (yA 43 (by omega))
  · exact h3.cg (xA 30 (by omega)) (yA 27 (by omega))
  · refine ⟨?_, ?_⟩
    · rw [iX7 15 (by decide), iX6 15 (by unfold stI; decide), iY7, I6 10 (by decide), eX4, gI_ne (by decide), gI_ne (by decide), eY4, gI_ne (by decide), m2, eY2, gI_ne (by decide), gI_at, eX2]
      rfl
    · rw [iX7 16 (by decide), iX6 16 (by unfold stI; decide), iY7, I6 11 (by decide), eX4, gI_ne (by decide), gI_ne (by decide), eY4, gI_ne (by decide), m2, eY2, gI_at, eX2]
      rfl
  · obtain ⟨L, l1, l2, l3, l4, l5⟩ := h5
    refine ⟨0, by omega, ?_, ?_, by rw [xA 6 (by omega), yA 1 (by omega)]; exact l4, fun i hi => by omega⟩
    · rw [iX7 641 (by decide), iX6 641 (by unfold stI; decide), eX4, gI_ne (by decide), gI_ne (by decide), eX2]
      rfl
    · rw [iY7, I6 1 (by decide), I4 1 (by decide), y1]
      rfl
  · exact h6.cg (xA 4 (by omega))
theorem cTown {n0 : Nat} {MX MY : Mem} (hn : 1700 ≤ n0) (h : R n0 MX MY) : Cal n0 (fX11_town n0 MX) (fX12_town n0 MY) := by
  obtain ⟨q, b, T, nr, C, m, pm, s, h⟩ := h
  obtain ⟨h1, h2, h3, h4, h5, h6, h7⟩ := id h
  have hq := h1.1
  have hb := h1.2.2.2.2.1.2.2.1
  have hok := h1.2.2.2.1.2.1
  have hl := h2.2.2.l
  obtain ⟨L, l1, l2, l3, l4, l5⟩ := h7.2.2.2.2.1
  rcases townC (n0 := n0) (q := 78 - q) (b := 1 - b) hn (by omega) (by omega) (by rw [h1.2.2.2.2.1.2.2.2.1]; congr 1; omega) l1 l2 l3 l4 l5 h7.2.2.2.2.2 with ⟨X1, Y1, sx, nt, nc, nd, nr', C', j, k1, k2, _, k4, k5, fX, fY, y1⟩ | ⟨X1, Y1, j, k1, k2, kF, fX, fY, y1⟩
  · obtain ⟨x0, f, u, e, a1, a2, a3, a4, a5, a6, a7, _⟩ := h5
    exact townGood hn (by omega) (by omega) (by rw [h1.2.1]; omega) h1.2.2.1 h7 (x0 := (x0 + u) % 20) (by omega) a2 a4 a6 k1 k2 k4 k5 fX fY y1
  · obtain ⟨k, f1, f2, f3, f4, f5⟩ := kF
    have hX2 : ∃ X2, X2 = sI (sI (sI X1 641 0) 15 (gI X1 391)) 16 (gI X1 392) := ⟨_, rfl⟩
    obtain ⟨X2, eX⟩ := hX2
    have hY2 : ∃ Y2, Y2 = sI (sI Y1 10 (gI Y1 8)) 11 (gI Y1 9) := ⟨_, rfl⟩
    obtain ⟨Y2, eY⟩ := hY2
    have xI : ∀ k, ¬ (k = 641 ∨ k = 15 ∨ k = 16) → ¬ (rgX (78 - q) k ∨ k = 128 * (78 - q)) → gI X2 k = gI MX k := fun k z1 z2 => by rw [eX, gI_ne (by omega), gI_ne (by omega), gI_ne (by omega)]; exact fX.1 k z2
    have xA : ∀ a, ¬ (78 - q ≤ a ∧ a < 78 - q + 16) → gA X2 a = gA MX a := fun a z => by rw [eX]; exact fX.2.1 a z
    have xR : ∀ k, ¬ k = 257 → ¬ k = 130 → gR X2 k = gR MX k := fun k z1 z2 => by rw [eX]; exact fX.2.2 k z1 z2
    have yI : ∀ k, ¬ (k = 10 ∨ k = 11) → ¬ (regI k ∨ k = 1 ∨ k = 2 ∨ k = 34) → gI Y2 k = gI MY k := fun k z1 z2 => by rw [eY, gI_ne (by omega), gI_ne (by omega)]; exact fY.1 k z2
    have yA : ∀ a i, ¬ regA (1 - b) a i → gA Y2 a i = gA MY a i := fun a i z => by rw [eY]; exact fY.2.1 a i z
    have yA2 : ∀ a, a = 1 ∨ 27 ≤ a → gA Y2 a = gA MY a := fun a z => by
      funext i
      exact yA a i (by unfold regA; omega)
    have yB : ∀ a i, ¬ regB (1 - b) a i → gB Y2 a i = gB MY a i := fun a i z => by rw [eY]; exact fY.2.2.2 a i z
    have hR : R n0 X2 Y2 := by
      refine ⟨q, b, T, nr, C, m, pm, s, h1.tw ⟨fun j z1 z2 => xI j (by omega) (by unfold rgX; omega), fun a z1 z2 => xA a (by omega)⟩ ⟨fun a i z1 z2 => yA a i (by unfold regA at z2 ⊢; omega), fun a i z => yB a i (by unfold regB at z ⊢; omega)⟩ (yI 13 (by decide) (by unfold regI; omega)) (xR 1 (by decide) (by decide)) (xR 2 (by decide) (by decide)), h2, ?_, h4.cg hok.2.1 (by omega) (fun a i z => by rw [yA2 a (by unfold lP tP dP at z; omega)]), h5.cg hok ⟨[], (List.append_nil _).symm⟩ (fun p z1 z2 => xA p (by omega)) (xI 2049 (by decide) (by unfold rgX; omega)) (xI 2050 (by decide) (by unfold rgX; omega)) (yI 53 (by decide) (by unfold regI; omega)) (yI 54 (by decide) (by unfold regI; omega)) (fun a i z => by rw [yA2 a (by unfold uP at z; omega)]), h6.cg (xI 2688 (by decide) (by unfold rgX; omega)) (yI 61 (by decide) (by unfold regI; omega)) (fun a z1 z2 => xA a (by omega)) (fun a z1 z2 => yA2 a (by omega)), ?_⟩
      · obtain ⟨s1, s2, s3, s4, s5, s6, s7⟩ := h3
        refine ⟨(xR 896 (by decide) (by decide)).trans s1, (xR 1280 (by decide) (by decide)).trans s2, (xI 1281 (by decide) (by unfold rgX; omega)).trans s3, fun c hc => ?_, fun d hd => ?_, (xI 1285 (by decide) (by unfold rgX; omega)).trans s6, fun i p hp => ?_⟩
        · rw [xA 11 (by omega), xA 12 (by omega)]; exact s4 c hc
        · rw [xA 13 (by omega)]; exact s5 d hd
        · rw [xA 14 (by omega), xA 15 (by omega)]; exact s7 i p hp
      · obtain ⟨o1, o2, o3, o4, o5, o6⟩ := h7
        refine ⟨o1.cg (xI 17 (by decide) (by unfold rgX; omega)) ?_, o2.cg (xI 14 (by decide) (by unfold rgX; omega)) (yI 67 (by decide) (by unfold regI; omega)) (xA 29 (by omega)) (yA2 43 (by omega)), o3.cg (xA 30 (by omega)) (yA2 27 (by omega)), ⟨?_, ?_⟩, ⟨0, by omega, ?_, ?_, by rw [yA2 1 (by omega), xA 6 (by omega)]; exact l4, fun i hi => by omega⟩, o6.cg (xA 4 (by omega))⟩
        · rw [eY]; exact fY.2.2.1 55 (by decide)
        · rw [eX, gI_ne (by decide), gI_at, eY, gI_ne (by decide), gI_at, f3, f4]
        · rw [eX, gI_at, eY, gI_at, f5]
        · rw [eX, gI_ne (by decide), gI_ne (by decide), gI_at]; rfl
        · rw [eY, gI_ne (by decide), gI_ne (by decide), y1]; rfl
    refine Cal.ref (k := 1) (r := -1) hR (by decide) ?_ ?_
    · unfold fX11_town
      rw [h1.2.2.1]
      refine eq_b k1 (eq_n (eq_n (eq_e (v' := X2) (by rw [eX]; rfl) (eq_t rfl (eq_b (xref (k := 1) (by decide)) rfl)))))
    · rw [k2]
      unfold fX12_town_196
      refine eq_n (eq_e (v' := Y2) (by rw [eY]; rfl) (eq_f ?_ (eq_b (yref (k := 1) (by decide)) rfl)))
      rw [eY, gI_ne (by decide), gI_ne (by decide), f4]
      exact nI_ge (a := 0) (by omega) (by omega)
end
section
/-! WHAT WAS SEEN, ON BOTH SIDES -/
theorem byt_v {t : Nat → Int32} {L i : Nat} (h : Byt t L) (hi : i < L) : ∃ v, v ≤ 255 ∧ t i = nI v := by
  obtain ⟨j, _, h2, e⟩ := in_nI (a := 0) (b := 255) (by decide) (h i hi) (by decide)
  exact ⟨j, h2, e⟩
def gdS (t : Nat → Int32) (nc k : Nat) : Prop := ∃ a c h, a ≤ 40 ∧ c < nc ∧ h ≤ 23 ∧ t (3 * k) = nI a ∧ t (3 * k + 1) = nI c ∧ t (3 * k + 2) = nI h
theorem n3 (k : Nat) : (3 : Int32) * nI k = nI (3 * k) := by rw [show (3 : Int32) = nI 3 from rfl, nI_mul]
abbrev xsL (n0 q : Nat) : Nat → Int32 → Int32 → Mem → Option (Int32 × Mem) := loopN (bX5_read_33 n0 q) (fun _ _ _ => none)
abbrev ysL (n0 : Nat) : Nat → Int32 → Int32 → Int32 → Mem → Option (Int32 × Mem) := loopN (bX12_see_34 n0) (fun _ _ _ _ => none)
theorem seeL {n0 q b rows nc : Nat} {MX MY : Mem} (h5 : nc ≤ 5) (hb : b ≤ 1) (x641 : gI MX 641 = nI (3 * rows)) (h16 : rows ≤ 16) (hby : Byt (gA MX 6) (3 * rows)) (hT : gA MY 1 = gA MX 6) (xq : gI MX (128 * q + 5) = nI nc) (h13 : gI MY 13 = nI b) (y5 : gA MY 5 b = nI nc) : ∀ w k, k ≤ rows → rows + 1 < w + k →
    (xsL n0 q w (nI rows) (nI k) MX = fX5_read_107 n0 q (nI rows) 0 MX ∧ ysL n0 w (nI (3 * rows)) 1 (nI (3 * k)) MY = fX12_see_94 n0 (nI (3 * rows)) 1 MY ∧ ∀ j, k ≤ j → j < rows → gdS (gA MX 6) nc j) ∨
    (xsL n0 q w (nI rows) (nI k) MX = some (0, MX) ∧ ysL n0 w (nI (3 * rows)) 1 (nI (3 * k)) MY = fX12_see_94 n0 (nI (3 * rows)) 0 MY)
  | 0, k, hk, hw => by omega
  | w + 1, k, hk, hw => by
    show (bX5_read_33 n0 q (xsL n0 q w) (nI rows) (nI k) MX = _ ∧ bX12_see_34 n0 (ysL n0 w) (nI (3 * rows)) 1 (nI (3 * k)) MY = _ ∧ _) ∨ (bX5_read_33 n0 q (xsL n0 q w) (nI rows) (nI k) MX = _ ∧ bX12_see_34 n0 (ysL n0 w) (nI (3 * rows)) 1 (nI (3 * k)) MY = _)
    by_cases g : k = rows
    · refine Or.inl ⟨?_, ?_, fun j h1 h2 => by omega⟩
      · unfold bX5_read_33
        exact eq_t (by rw [g]; exact Int32.le_refl _) rfl
      · unfold bX12_see_34
        exact eq_t (by rw [g]; exact Int32.le_refl _) rfl
    · have hx : ¬ nI rows ≤ nI k := nI_ge (by omega) (by omega)
      have hy : ¬ nI (3 * rows) ≤ nI (3 * k) := nI_ge (by omega) (by omega)
      obtain ⟨v0, p0, e0⟩ := byt_v hby (i := 3 * k) (by omega)
      obtain ⟨v1, p1, e1⟩ := byt_v hby (i := 3 * k + 1) (by omega)
      obtain ⟨v2, p2, e2⟩ := byt_v hby (i := 3 * k + 2) (by omega)
      have k0 : (nI (3 * k)).toNatClampNeg = 3 * k := nI_clamp (by omega)
      have k1 : (nI (3 * k + 1)).toNatClampNeg = 3 * k + 1 := nI_clamp (by omega)
      have k2 : (nI (3 * k + 2)).toNatClampNeg = 3 * k + 2 := nI_clamp (by omega)
      have i1 : nI (3 * k) + 1 = nI (3 * k + 1) := nI_add _ 1
      have i2 : nI (3 * k) + 2 = nI (3 * k + 2) := nI_add _ 2
      have i3 : nI (3 * k) + 3 = nI (3 * (k + 1)) := by rw [show nI (3 * k) + 3 = nI (3 * k + 3) from nI_add _ 3, Nat.mul_add]
      have c1 : nI k + 1 = nI (k + 1) := nI_add k 1
      have a0 : fX7_at n0 (nI (3 * k)) MX = some (nI v0, MX) := by rw [xat x641 (by omega) (by omega), e0]
      have a1 : fX7_at n0 (nI (3 * k + 1)) MX = some (nI v1, MX) := by rw [xat x641 (by omega) (by omega), e1]
      have a2 : fX7_at n0 (nI (3 * k + 2)) MX = some (nI v2, MX) := by rw [xat x641 (by omega) (by omega), e2]
      have badY : fX12_see_86 n0 (ysL n0 w) (nI (3 * rows)) (nI (3 * k)) MY = fX12_see_94 n0 (nI (3 * rows)) 0 MY := by
        unfold fX12_see_86 fX12_see_87
        rw [i3]
        obtain ⟨w', rfl⟩ : ∃ w', w = w' + 1 := ⟨w - 1, by omega⟩
        show bX12_see_34 n0 (ysL n0 w') (nI (3 * rows)) 0 (nI (3 * (k + 1))) MY = _
        unfold bX12_see_34
        by_cases z : nI (3 * rows) ≤ nI (3 * (k + 1))
        · exact eq_t z rfl
        · exact eq_f z (eq_t rfl rfl)
      have badX : fX5_read_73 n0 q (xsL n0 q w) (nI rows) (nI k) MX = some (0, MX) := by
        unfold fX5_read_73 fX5_read_74
        exact eq_t rfl rfl
      have y0 : gA MY 1 (nI (3 * k)).toNatClampNeg = nI v0 := by rw [k0, hT, e0]
      have y1 : gA MY 1 (nI (3 * k) + 1).toNatClampNeg = nI v1 := by rw [i1, k1, hT, e1]
      have y2 : gA MY 1 (nI (3 * k) + 2).toNatClampNeg = nI v2 := by rw [i2, k2, hT, e2]
      have o0 : ¬ oob (nI (3 * k)) 1800 := nI_in (by omega) (by decide)
      have o1 : ¬ oob (nI (3 * k) + 1) 1800 := by rw [i1]; exact nI_in (by omega) (by decide)
      have o2 : ¬ oob (nI (3 * k) + 2) 1800 := by rw [i2]; exact nI_in (by omega) (by decide)
      by_cases b0 : v0 ≤ 40
      · have q0 : ¬ (40 : Int32) < nI v0 := fun z => by have := (nI_ltI (a := 40) (by decide) (by omega)).mp z; omega
        by_cases b1 : v1 < nc
        · by_cases b2 : v2 ≤ 23
          · have q2 : ¬ (23 : Int32) < nI v2 := fun z => by have := (nI_ltI (a := 23) (by decide) (by omega)).mp z; omega
            have sx : bX5_read_33 n0 q (xsL n0 q w) (nI rows) (nI k) MX = xsL n0 q w (nI rows) (nI (k + 1)) MX := by
              unfold bX5_read_33
              simp only [n3, i1]
              refine eq_f hx (eq_b a0 (eq_f q0 (eq_b a1 (eq_b (xCot xq (by omega) b1) (eq_f (show ¬ (1 : Int32) = 0 by decide) ?_)))))
              unfold fX5_read_74
              simp only [n3, i2]
              refine eq_f (by decide) (eq_b a2 (eq_t (nI_le (b := 23) b2 (by decide)) ?_))
              rw [c1]
            have sy : bX12_see_34 n0 (ysL n0 w) (nI (3 * rows)) 1 (nI (3 * k)) MY = ysL n0 w (nI (3 * rows)) 1 (nI (3 * (k + 1))) MY := by
              unfold bX12_see_34
              refine eq_f hy (eq_f (by decide) (eq_f o0 (eq_f (by rw [y0]; exact q0) (eq_f o1 (eq_b (by rw [y1]; exact yCot h13 hb y5 (by omega) b1) (eq_f (show ¬ (1 : Int32) = 0 by decide) (eq_f o2 (eq_f (by rw [y2]; exact q2) ?_))))))))
              unfold fX12_see_87
              rw [i3]
            rw [sx, sy]
            rcases seeL h5 hb x641 h16 hby hT xq h13 y5 w (k + 1) (by omega) (by omega) with ⟨r1, r2, r3⟩ | ⟨r1, r2⟩
            · refine Or.inl ⟨r1, r2, fun j h1 h2 => ?_⟩
              by_cases z : j = k
              · rw [z]
                exact ⟨v0, v1, v2, b0, b1, b2, e0, e1, e2⟩
              · exact r3 j (by omega) h2
            · exact Or.inr ⟨r1, r2⟩
          · refine Or.inr ⟨?_, ?_⟩
            · unfold bX5_read_33
              simp only [n3, i1]
              refine eq_f hx (eq_b a0 (eq_f q0 (eq_b a1 (eq_b (xCot xq (by omega) b1) (eq_f (show ¬ (1 : Int32) = 0 by decide) ?_)))))
              unfold fX5_read_74
              simp only [n3, i2]
              exact eq_f (by decide) (eq_b a2 (eq_f (nI_ge (a := 23) (by omega) (by omega)) rfl))
            · unfold bX12_see_34
              exact eq_f hy (eq_f (by decide) (eq_f o0 (eq_f (by rw [y0]; exact q0) (eq_f o1 (eq_b (by rw [y1]; exact yCot h13 hb y5 (by omega) b1) (eq_f (show ¬ (1 : Int32) = 0 by decide) (eq_f o2 (eq_t (by rw [y2]; exact nI_lt (a := 23) (by omega) (by omega)) badY))))))))
        · have zz : nI v1 < 0 ∨ nI nc ≤ nI v1 := Or.inr (nI_le (by omega) (by omega))
          refine Or.inr ⟨?_, ?_⟩
          · unfold bX5_read_33
            simp only [n3, i1]
            exact eq_f hx (eq_b a0 (eq_f q0 (eq_b a1 (eq_b (xCof xq zz) (eq_t rfl badX)))))
          · unfold bX12_see_34
            exact eq_f hy (eq_f (by decide) (eq_f o0 (eq_f (by rw [y0]; exact q0) (eq_f o1 (eq_b (by rw [y1]; exact yCof h13 hb y5 zz) (eq_t rfl badY))))))
      · have q0 : (40 : Int32) < nI v0 := nI_lt (a := 40) (by omega) (by omega)
        refine Or.inr ⟨?_, ?_⟩
        · unfold bX5_read_33
          simp only [n3]
          exact eq_f hx (eq_b a0 (eq_t q0 badX))
        · unfold bX12_see_34
          exact eq_f hy (eq_f (by decide) (eq_f o0 (eq_t (by rw [y0]; exact q0) badY)))
abbrev xcL (n0 q : Nat) : Nat → Int32 → Int32 → Mem → Option (Int32 × Mem) := loopN (bX5_read_107 n0 q) (fun _ _ _ => none)
theorem xsee {n0 q rows : Nat} (h16 : rows ≤ 16) : ∀ w k M, k ≤ rows → rows < w + k → gI M 641 = nI (3 * rows) → ∃ M', xcL n0 q w (nI rows) (nI k) M = some (1, sI M' 2688 (nI rows)) ∧ (∀ j, k ≤ j → j < rows → gA M' 22 j = gA M 6 (3 * j) ∧ gA M' 23 j = gA M 6 (3 * j + 1) ∧ gA M' 24 j = gA M 6 (3 * j + 2)) ∧ gR M' = gR M ∧ gL M' = gL M ∧ gB M' = gB M ∧ gI M' = gI M ∧ ∀ a i, ¬ (22 ≤ a ∧ a ≤ 24 ∧ k ≤ i) → gA M' a i = gA M a i
  | 0, k, M, hk, hw, _ => by omega
  | w + 1, k, M, hk, hw, hL => by
    show ∃ M', bX5_read_107 n0 q (xcL n0 q w) (nI rows) (nI k) M = _ ∧ _
    unfold bX5_read_107
    by_cases g : k = rows
    · exact ⟨M, eq_t (by rw [g]; exact Int32.le_refl _) rfl, fun j h1 h2 => by omega, rfl, rfl, rfl, rfl, fun _ _ _ => rfl⟩
    · have ck : (nI k).toNatClampNeg = k := nI_clamp (by omega)
      have ok : ¬ oob (nI k) 16 := nI_in (by omega) (by decide)
      have i1 : nI (3 * k) + 1 = nI (3 * k + 1) := nI_add _ 1
      have i2 : nI (3 * k) + 2 = nI (3 * k + 2) := nI_add _ 2
      have hM : ∃ N, N = sA (sA (sA M 22 k (gA M 6 (3 * k))) 23 k (gA M 6 (3 * k + 1))) 24 k (gA M 6 (3 * k + 2)) := ⟨_, rfl⟩
      obtain ⟨N, eN⟩ := hM
      have nA : ∀ a i, ¬ (22 ≤ a ∧ a ≤ 24 ∧ i = k) → gA N a i = gA M a i := fun a i z => by
        rw [eN, gA_sA]
        by_cases z4 : a = 24
        · rw [if_pos z4, if_neg (by omega), gA_sA_ne (by decide), gA_sA_ne (by decide), z4]
        · rw [if_neg z4, gA_sA]
          by_cases z3 : a = 23
          · rw [if_pos z3, if_neg (by omega), gA_sA_ne (by decide), z3]
          · rw [if_neg z3, gA_sA]
            by_cases z2 : a = 22
            · rw [if_pos z2, if_neg (by omega), z2]
            · rw [if_neg z2]
      obtain ⟨M', r1, r2, r3, r4, r5, r6, r7⟩ := xsee (n0 := n0) (q := q) h16 w (k + 1) N (by omega) (by omega) (by rw [eN]; exact hL)
      refine ⟨M', ?_, fun j h1 h2 => ?_, r3.trans (by rw [eN]; rfl), r4.trans (by rw [eN]; rfl), r5.trans (by rw [eN]; rfl), r6.trans (by rw [eN]; rfl), fun a i z => (r7 a i (by omega)).trans (nA a i (by omega))⟩
      · simp only [n3, i1, i2]
        refine eq_f (nI_ge (by omega) (by omega)) (eq_b (xat hL (by omega) (by omega)) (eq_f ok (eq_e (v' := sA M 22 k (gA M 6 (3 * k))) (by rw [ck]) (eq_b (xat (M := sA M 22 k (gA M 6 (3 * k))) (L := 3 * rows) hL (by omega) (by omega)) (eq_f ok (eq_e (v' := sA (sA M 22 k (gA M 6 (3 * k))) 23 k (gA M 6 (3 * k + 1))) ?_ (eq_b (xat (M := sA (sA M 22 k (gA M 6 (3 * k))) 23 k (gA M 6 (3 * k + 1))) (L := 3 * rows) hL (by omega) (by omega)) (eq_f ok (eq_e (v' := N) ?_ ?_)))))))))
        · rw [ck, gA_sA_ne (by decide)]
        · rw [ck, gA_sA_ne (by decide), gA_sA_ne (by decide), eN]
        · rw [show nI k + 1 = nI (k + 1) from nI_add k 1]
          exact r1
      · by_cases z : j = k
        · rw [z, r7 22 k (by omega), r7 23 k (by omega), r7 24 k (by omega), eN]
          refine ⟨?_, ?_, ?_⟩
          · rw [gA_sA_ne (by decide), gA_sA_ne (by decide), gA_sA, if_pos rfl, if_pos rfl]
          · rw [gA_sA_ne (by decide), gA_sA, if_pos rfl, if_pos rfl]
          · rw [gA_sA, if_pos rfl, if_pos rfl]
        · obtain ⟨p1, p2, p3⟩ := r2 j (by omega) h2
          rw [p1, p2, p3, nA 6 _ (by omega), nA 6 _ (by omega), nA 6 _ (by omega)]
          exact ⟨rfl, rfl, rfl⟩
abbrev ycL (n0 : Nat) : Nat → Int32 → Mem → Option (Int32 × Mem) := loopN (bX12_see_113 n0) (fun _ _ => none)
theorem ysee {n0 rows : Nat} (h16 : rows ≤ 16) : ∀ w k M, k ≤ rows → rows < w + k → gI M 61 = nI rows → ∃ M', ycL n0 w (nI k) M = some (nI rows, M') ∧ (∀ j, k ≤ j → j < rows → gA M' 39 j = gA M 1 (3 * j) ∧ gA M' 40 j = gA M 1 (3 * j + 1) ∧ gA M' 41 j = gA M 1 (3 * j + 2)) ∧ gR M' = gR M ∧ gL M' = gL M ∧ gB M' = gB M ∧ gI M' = gI M ∧ ∀ a i, ¬ (39 ≤ a ∧ a ≤ 41 ∧ k ≤ i) → gA M' a i = gA M a i
  | 0, k, M, hk, hw, _ => by omega
  | w + 1, k, M, hk, hw, hL => by
    show ∃ M', bX12_see_113 n0 (ycL n0 w) (nI k) M = _ ∧ _
    unfold bX12_see_113
    by_cases g : k = rows
    · exact ⟨M, eq_t (by rw [hL, g]; exact Int32.le_refl _) (by rw [hL]), fun j h1 h2 => by omega, rfl, rfl, rfl, rfl, fun _ _ _ => rfl⟩
    · have ck : (nI k).toNatClampNeg = k := nI_clamp (by omega)
      have ok : ¬ oob (nI k) 16 := nI_in (by omega) (by decide)
      have i1 : nI (3 * k) + 1 = nI (3 * k + 1) := nI_add _ 1
      have i2 : nI (3 * k) + 2 = nI (3 * k + 2) := nI_add _ 2
      have k0 : (nI (3 * k)).toNatClampNeg = 3 * k := nI_clamp (by omega)
      have k1 : (nI (3 * k + 1)).toNatClampNeg = 3 * k + 1 := nI_clamp (by omega)
      have k2 : (nI (3 * k + 2)).toNatClampNeg = 3 * k + 2 := nI_clamp (by omega)
      have hM : ∃ N, N = sA (sA (sA M 39 k (gA M 1 (3 * k))) 40 k (gA M 1 (3 * k + 1))) 41 k (gA M 1 (3 * k + 2)) := ⟨_, rfl⟩
      obtain ⟨N, eN⟩ := hM
      have nA : ∀ a i, ¬ (39 ≤ a ∧ a ≤ 41 ∧ i = k) → gA N a i = gA M a i := fun a i z => by
        rw [eN, gA_sA]
        by_cases z4 : a = 41
        · rw [if_pos z4, if_neg (by omega), gA_sA_ne (by decide), gA_sA_ne (by decide), z4]
        · rw [if_neg z4, gA_sA]
          by_cases z3 : a = 40
          · rw [if_pos z3, if_neg (by omega), gA_sA_ne (by decide), z3]
          · rw [if_neg z3, gA_sA]
            by_cases z2 : a = 39
            · rw [if_pos z2, if_neg (by omega), z2]
            · rw [if_neg z2]
      obtain ⟨M', r1, r2, r3, r4, r5, r6, r7⟩ := ysee (n0 := n0) h16 w (k + 1) N (by omega) (by omega) (by rw [eN]; exact hL)
      refine ⟨M', ?_, fun j h1 h2 => ?_, r3.trans (by rw [eN]; rfl), r4.trans (by rw [eN]; rfl), r5.trans (by rw [eN]; rfl), r6.trans (by rw [eN]; rfl), fun a i z => (r7 a i (by omega)).trans (nA a i (by omega))⟩
      · simp only [n3, i1, i2, k0, k1, k2, ck]
        refine eq_f (by rw [hL]; exact nI_ge (by omega) (by omega)) (eq_f (nI_in (by omega) (by decide)) (eq_f ok (eq_n (eq_f (nI_in (by omega) (by decide)) (eq_f ok (eq_n (eq_f (nI_in (by omega) (by decide)) (eq_f ok (eq_e (v' := N) ?_ ?_)))))))))
        · rw [eN, gA_sA_ne (by decide), gA_sA_ne (by decide), gA_sA_ne (by decide)]
        · rw [show nI k + 1 = nI (k + 1) from nI_add k 1]
          exact r1
      · by_cases z : j = k
        · rw [z, r7 39 k (by omega), r7 40 k (by omega), r7 41 k (by omega), eN]
          refine ⟨?_, ?_, ?_⟩
          · rw [gA_sA_ne (by decide), gA_sA_ne (by decide), gA_sA, if_pos rfl, if_pos rfl]
          · rw [gA_sA_ne (by decide), gA_sA, if_pos rfl, if_pos rfl]
          · rw [gA_sA, if_pos rfl, if_pos rfl]
        · obtain ⟨p1, p2, p3⟩ := r2 j (by omega) h2
          rw [p1, p2, p3, nA 1 _ (by omega), nA 1 _ (by omega), nA 1 _ (by omega)]
          exact ⟨rfl, rfl, rfl⟩
/-- the tape goes, nothing else -/
theorem R.gone {n0 : Nat} {MX MY : Mem} (h : R n0 MX MY) : R n0 (sI MX 641 0) (sI MY 1 0) := by
  obtain ⟨q, b, T, nr, C, m, pm, s, h⟩ := h
  have ho := h.2.2.2.2.2.2
  obtain ⟨L, l1, l2, l3, l4, l5⟩ := ho.2.2.2.2.1
  exact ⟨q, b, T, nr, C, m, pm, s, h.ou ⟨rfl, fun k z => gI_ne (by omega), fun _ _ => rfl⟩ ⟨fun k z => gI_ne (by omega), fun _ _ => rfl, rfl⟩ ⟨ho.1, ho.2.1, ho.2.2.1, ho.2.2.2.1, ⟨0, by omega, gI_at, gI_at, l4, fun i hi => by omega⟩, ho.2.2.2.2.2⟩⟩
theorem cSee {n0 : Nat} {MX MY : Mem} (hn : 1700 ≤ n0) (h : R n0 MX MY) : Cal n0 (fX11_see n0 MX) (fX12_see n0 MY) := by
  have hg := h.gone
  obtain ⟨q, b, T, nr, C, m, pm, s, h⟩ := h
  obtain ⟨h1, h2, h3, h4, h5, h6, h7⟩ := id h
  have hok := h1.2.2.2.1.2.1
  have hl := h2.2.2.l
  have hb := h1.2.2.2.2.1.2.2.1
  have h13 := h1.2.2.2.2.1.2.2.2.1
  have hq := h1.1
  obtain ⟨L, l1, l2, l3, l4, l5⟩ := h7.2.2.2.2.1
  -- refused on both sides
  have bad : ∀ g, fX5_read n0 q MX = some (0, MX) → g = fX12_see_94 n0 (nI L) 0 (sI MY 1 0) → Cal n0 (fX11_see n0 MX) g := fun g e1 e2 => by
    refine Cal.ref (k := 5) (r := -1) hg (by decide) ?_ (e2.trans ?_)
    · unfold fX11_see
      rw [h1.2.1]
      exact eq_b e1 (eq_n (eq_t rfl (eq_b (xref (k := 5) (by decide)) rfl)))
    · unfold fX12_see_94
      exact eq_t rfl (eq_b (yref (k := 5) (by decide)) rfl)
  have s30 : ∀ M : Mem, fX12_see_30 n0 (nI L) M = fX12_see_94 n0 (nI L) 0 M := fun M => by
    unfold fX12_see_30 fX12_see_31 fX12_see_34
    obtain ⟨w, rfl⟩ : ∃ w, n0 = w + 1 := ⟨n0 - 1, by omega⟩
    show bX12_see_34 (w + 1) (loopN (bX12_see_34 (w + 1)) (fun _ _ _ _ => none) w) (nI L) 0 0 M = _
    unfold bX12_see_34
    by_cases z : nI L ≤ 0
    · exact eq_t z rfl
    · exact eq_f z (eq_t rfl rfl)
  have d3 : gI MX 641 / 3 = nI (L / 3) := by rw [l2, show (3 : Int32) = nI 3 from rfl, nI_div (by omega) (by decide)]
  by_cases g0 : L = 0
  · refine bad _ ?_ ?_
    · unfold fX5_read
      exact eq_f (by decide) (eq_e d3 (eq_t (by rw [g0]; decide) rfl))
    · unfold fX12_see
      refine eq_e l3 (eq_n (eq_t (by rw [g0]; decide) (s30 _)))
  · have lp : ¬ nI L ≤ 0 := nI_ge (a := 0) (by omega) (by omega)
    by_cases g1 : L % 3 = 0
    · have e3 : rem32 (nI L) 3 = 0 := by rw [show (3 : Int32) = nI 3 from rfl, rem_nI (by omega) (by decide), g1]; rfl
      by_cases g2 : 48 < L
      · refine bad _ ?_ ?_
        · unfold fX5_read
          exact eq_f (by decide) (eq_e d3 (eq_f (fun z => by have := (nI_ltI (b := 1) (by omega) (by decide)).mp z; omega) (eq_t (nI_lt (a := 16) (by omega) (by omega)) rfl)))
        · unfold fX12_see
          exact eq_e l3 (eq_n (eq_f lp (eq_f (by decide) (eq_t e3 (eq_t (nI_lt (a := 48) g2 (by omega)) (s30 _))))))
      · obtain ⟨rows, rfl⟩ : ∃ rows, L = 3 * rows := ⟨L / 3, by omega⟩
        have dr : 3 * rows / 3 = rows := by omega
        have xr : fX5_read n0 q MX = xsL n0 q n0 (nI rows) (nI 0) MX := by
          unfold fX5_read
          refine eq_f (by decide) (eq_e (v' := nI rows) (by rw [d3, dr]) (eq_f (fun z => by have := (nI_ltI (b := 1) (by omega) (by decide)).mp z; omega) (eq_f (fun z => by have := (nI_ltI (a := 16) (by decide) (by omega)).mp z; omega) (eq_t (by rw [l2, n3]) rfl))))
        have yr : fX12_see n0 MY = ysL n0 n0 (nI (3 * rows)) 1 (nI (3 * 0)) (sI MY 1 0) := by
          unfold fX12_see
          exact eq_e l3 (eq_n (eq_f lp (eq_f (by decide) (eq_t e3 (eq_f (fun z => by have := (nI_ltI (a := 48) (by decide) (by omega)).mp z; omega) rfl)))))
        rcases seeL (n0 := n0) (q := q) (b := b) (rows := rows) (nc := T.nc) (MX := MX) (MY := sI MY 1 0) hok.2.1 hb l2 (by omega) l5 l4 h1.2.2.2.1.2.2.1 h13 h1.2.2.2.2.1.2.2.2.2.2.1 n0 0 (by omega) (by omega) with ⟨r1, r2, r3⟩ | ⟨r1, r2⟩
        · obtain ⟨X1, a1, a2, a3, a4, a5, a6, a7⟩ := xsee (n0 := n0) (q := q) (rows := rows) (by omega) n0 0 MX (by omega) (by omega) l2
          obtain ⟨Y1, b1, b2, b3, b4, b5, b6, b7⟩ := ysee (n0 := n0) (rows := rows) (by omega) n0 0 (sI (sI MY 1 0) 61 (nI rows)) (by omega) (by omega) gI_at
          have xI : ∀ k, ¬ (k = 641 ∨ k = 2688) → gI (sI (sI X1 2688 (nI rows)) 641 0) k = gI MX k := fun k z => by rw [gI_ne (by omega), gI_ne (by omega), a6]
          have xA : ∀ a, ¬ (22 ≤ a ∧ a ≤ 24) → gA X1 a = gA MX a := fun a z => by
            funext i
            exact a7 a i (by omega)
          have yI : ∀ k, ¬ (k = 1 ∨ k = 61) → gI Y1 k = gI MY k := fun k z => by rw [b6, gI_ne (by omega), gI_ne (by omega)]
          have yA : ∀ a, ¬ (39 ≤ a ∧ a ≤ 41) → gA Y1 a = gA MY a := fun a z => by
            funext i
            exact b7 a i (by omega)
          refine ⟨nI rows, sI (sI X1 2688 (nI rows)) 641 0, Y1, ?_, ?_, q, b, T, nr, C, m, pm, s, h1.cgs a3 (fun k z => xI k (by omega)) (fun a z1 z2 => xA a (by omega)) (yI 13 (by decide)) (fun a z1 z2 => yA a (by omega)) (fun a _ _ => by rw [b5]; rfl), h2, h3.cgs a3 (xI 1281 (by decide)) (xI 1285 (by decide)) (fun a z1 z2 => xA a (by omega)), h4.cg hok.2.1 (by omega) (fun a i z => by rw [yA a (by unfold lP tP dP at z; omega)]), h5.cg hok ⟨[], (List.append_nil _).symm⟩ (fun p z1 z2 => xA p (by omega)) (xI 2049 (by decide)) (xI 2050 (by decide)) (yI 53 (by decide)) (yI 54 (by decide)) (fun a i z => by rw [yA a (by unfold uP at z; omega)]), ⟨rows, by omega, by rw [gI_ne (by decide), gI_at], by rw [b6, gI_at], fun k hk => ?_⟩, ?_⟩
          · unfold fX11_see
            rw [h1.2.1]
            refine eq_b (z := (1, sI X1 2688 (nI rows))) (xr.trans (r1.trans a1)) (eq_n (eq_f (show ¬ (1 : Int32) = 0 by decide) ?_))
            rw [gI_ne (by decide), gI_at]
          · rw [yr, r2]
            unfold fX12_see_94
            refine eq_f (by decide) (eq_f (by decide) (eq_e (v' := sI (sI MY 1 0) 61 (nI rows)) ?_ b1))
            rw [show (3 : Int32) = nI 3 from rfl, nI_div (by omega) (by decide), dr]
          · obtain ⟨a, c, hh, u1, u2, u3, u4, u5, u6⟩ := r3 k (by omega) hk
            obtain ⟨w1, w2, w3⟩ := a2 k (by omega) hk
            obtain ⟨w4, w5, w6⟩ := b2 k (by omega) hk
            have ey : gA (sI (sI MY 1 0) 61 (nI rows)) 1 = gA MX 6 := l4
            rw [ey] at w4 w5 w6
            exact ⟨a, c, hh, u1, u2, u3, w1.trans u4, w4.trans u4, w2.trans u5, w5.trans u5, w3.trans u6, w6.trans u6⟩
          · obtain ⟨o1, o2, o3, o4, o5, o6⟩ := h7
            exact ⟨o1.cg (xI 17 (by decide)) (by rw [b4]; rfl), o2.cg (xI 14 (by decide)) (yI 67 (by decide)) (xA 29 (by omega)) (yA 43 (by omega)), o3.cg (xA 30 (by omega)) (yA 27 (by omega)), o4.cg (xI 15 (by decide)) (xI 16 (by decide)) (yI 10 (by decide)) (yI 11 (by decide)), ⟨0, by omega, gI_at, by rw [b6, gI_ne (by decide), gI_at]; rfl, by rw [yA 1 (by omega)]; exact l4.trans (xA 6 (by omega)).symm, fun i hi => by omega⟩, o6.cg (xA 4 (by omega))⟩
        · exact bad _ (xr.trans r1) (yr.trans r2)
    · refine bad _ ?_ ?_
      · unfold fX5_read
        refine eq_f (by decide) (eq_e d3 ?_)
        by_cases z1 : nI (L / 3) < 1
        · exact eq_t z1 rfl
        · by_cases z2 : (16 : Int32) < nI (L / 3)
          · exact eq_f z1 (eq_t z2 rfl)
          · refine eq_f z1 (eq_f z2 (eq_f ?_ rfl))
            rw [l2, n3]
            exact fun z => by have := (nI_eq (by omega) (by omega)).mp z; omega
      · unfold fX12_see
        refine eq_e l3 (eq_n (eq_f lp (eq_f (by decide) (eq_f ?_ (s30 _)))))
        rw [show (3 : Int32) = nI 3 from rfl, rem_nI (by omega) (by decide)]
        exact nI_ne0 (by omega) (by omega)
end
section
/-! AN IMAGE ON BOTH SIDES -/
theorem shr8 {n : Nat} (h : n < 2 ^ 31) : nI n >>> ((8 : Int32) &&& 31) = nI (n / 256) := pk_shrN h _ 8 (by decide)
theorem and255 (n : Nat) : nI n &&& 255 = nI (n % 256) := by
  rw [show (255 : Int32) = nI 255 from rfl, nAnd, show 255 = 2 ^ 8 - 1 from rfl, Nat.and_two_pow_sub_one_eq_mod]
def ckN (bv : Nat → Nat) : Nat → Nat
  | 0 => 227
  | k + 1 => (5 * ckN bv k + bv k) % 251
theorem ckN_lt (bv : Nat → Nat) : ∀ k, ckN bv k < 251
  | 0 => (by decide : 227 < 251)
  | k + 1 => Nat.mod_lt _ (by decide)
theorem ck1 {bv : Nat → Nat} {k : Nat} (h : bv k < 256) : rem32 ((5 : Int32) * nI (ckN bv k) + nI (bv k)) 251 = nI (ckN bv (k + 1)) := by
  have := ckN_lt bv k
  rw [show (5 : Int32) = nI 5 from rfl, nI_mul, nI_add, show (251 : Int32) = nI 251 from rfl, rem_nI (by omega) (by decide)]
  rfl
theorem xck {n0 q0 n : Nat} {bv : Nat → Nat} {M : Mem} (hl : n ≤ LX.ln q0) (hl2 : LX.ln q0 ≤ 1600) (hb : ∀ j, j < n → gA M q0 j = nI (bv j) ∧ bv j < 256) : ∀ w k, k ≤ n → n < w + k → loopN (bX6_checkOf_6 n0 q0) (fun _ _ _ _ => none) w (nI n) (nI (ckN bv k)) (nI k) M = some (nI (ckN bv n), M)
  | 0, k, hk, hw => by omega
  | w + 1, k, hk, hw => by
    show bX6_checkOf_6 n0 q0 (loopN (bX6_checkOf_6 n0 q0) (fun _ _ _ _ => none) w) (nI n) (nI (ckN bv k)) (nI k) M = _
    unfold bX6_checkOf_6
    by_cases g : k = n
    · rw [g]
      exact eq_t (Int32.le_refl _) rfl
    · have ck : (nI k).toNatClampNeg = k := nI_clamp (by omega)
      refine eq_f (nI_ge (by omega) (by omega)) (eq_f (nI_ge (b := LX.ln q0) (by omega) (by omega)) (eq_f (nI_in (by omega) (by omega)) (eq_f (by decide) (eq_e (v' := nI (ckN bv (k + 1))) ?_ ?_))))
      · rw [ck, (hb k (by omega)).1, ck1 (hb k (by omega)).2]
      · rw [show nI k + 1 = nI (k + 1) from nI_add k 1]
        exact xck (n0 := n0) hl hl2 hb w (k + 1) (by omega) (by omega)
def ImR (n : Nat) (MX MY : Mem) : Prop := gI MY 67 = nI n ∧ ∀ k, k < n → ∃ v, v < 256 ∧ gA MX 29 k = nI v ∧ gA MY 43 k = nI v
def XIm (M M' : Mem) : Prop := gR M' = gR M ∧ gL M' = gL M ∧ gB M' = gB M ∧ gI M' = gI M ∧ ∀ a, ¬ a = 29 → gA M' a = gA M a
def YIm (M M' : Mem) : Prop := gR M' = gR M ∧ gL M' = gL M ∧ gB M' = gB M ∧ (∀ k, ¬ k = 67 → gI M' k = gI M k) ∧ ∀ a, ¬ a = 43 → gA M' a = gA M a
theorem XIm.r {M : Mem} : XIm M M := ⟨rfl, rfl, rfl, rfl, fun _ _ => rfl⟩
theorem XIm.tr {M M' M2 : Mem} (h : XIm M M') (g : XIm M' M2) : XIm M M2 := ⟨g.1.trans h.1, g.2.1.trans h.2.1, g.2.2.1.trans h.2.2.1, g.2.2.2.1.trans h.2.2.2.1, fun a z => (g.2.2.2.2 a z).trans (h.2.2.2.2 a z)⟩
theorem XIm.a {M M' : Mem} {i : Nat} {v : Int32} (h : XIm M M') : XIm M (sA M' 29 i v) := ⟨h.1, h.2.1, h.2.2.1, h.2.2.2.1, fun a z => (gA_sA_ne z).trans (h.2.2.2.2 a z)⟩
theorem YIm.r {M : Mem} : YIm M M := ⟨rfl, rfl, rfl, fun _ _ => rfl, fun _ _ => rfl⟩
theorem YIm.tr {M M' M2 : Mem} (h : YIm M M') (g : YIm M' M2) : YIm M M2 := ⟨g.1.trans h.1, g.2.1.trans h.2.1, g.2.2.1.trans h.2.2.1, fun a z => (g.2.2.2.1 a z).trans (h.2.2.2.1 a z), fun a z => (g.2.2.2.2 a z).trans (h.2.2.2.2 a z)⟩
theorem imp {n0 n v : Nat} {x : Int32} {M N : Mem} (h : ImR n M N) (hn : n < 24) (hv : v < 256) (hx : x &&& 255 = nI v) : ∃ N', fX12_writes n0 x N = some N' ∧ ImR (n + 1) (sA M 29 n (nI v)) N' ∧ YIm N N' := by
  have cn : (nI n).toNatClampNeg = n := nI_clamp (by omega)
  refine ⟨sI (sA N 43 n (nI v)) 67 (nI (n + 1)), ?_, ⟨gI_at, fun k hk => ?_⟩, ⟨rfl, rfl, rfl, fun k z => gI_ne z, fun a z => gA_sA_ne z⟩⟩
  · unfold fX12_writes
    refine eq_f (by rw [h.1]; exact nI_in (by omega) (by decide)) (eq_e (v' := sA N 43 n (nI v)) (by rw [h.1, cn, hx]) ?_)
    rw [gI_sA, h.1, show nI n + 1 = nI (n + 1) from nI_add n 1]
  · show ∃ v', v' < 256 ∧ gA (sA M 29 n (nI v)) 29 k = nI v' ∧ gA (sA N 43 n (nI v)) 43 k = nI v'
    rw [gA_sA, if_pos rfl, gA_sA, if_pos rfl]
    by_cases z : k = n
    · rw [if_pos z, if_pos z]
      exact ⟨v, hv, rfl, rfl⟩
    · rw [if_neg z, if_neg z]
      exact h.2 k (by omega)
theorem ln29 : LX.ln 29 = 24 := rfl
theorem ImR.wr {n v : Nat} {M N : Mem} (h : ImR n M N) {k : Nat} (hk : n ≤ k) (w : Int32) : ImR n (sA M 29 k w) N := ⟨h.1, fun j hj => by
  rw [gA_sA, if_pos rfl, if_neg (by omega)]
  exact h.2 j hj⟩
abbrev xiL (n0 : Nat) : Nat → Int32 → Int32 → Mem → Option (Int32 × Mem) := loopN (bX6_writeImage_36 n0 29) (fun _ _ _ => none)
abbrev yiL (n0 : Nat) : Nat → Int32 → Mem → Option (Int32 × Mem) := loopN (bX12_image_30 n0) (fun _ _ => none)
theorem thb {nt : Nat} {t : Int32} (h : tOk nt t) (hn : nt ≤ 6) : ∃ v, v < 256 ∧ t &&& 255 = nI v ∧ ((t = -1 ∧ v = 255) ∨ (¬ t = -1 ∧ t = nI v)) := by
  rcases h with h | ⟨k, hk, h⟩
  · exact ⟨255, by decide, by rw [h]; decide, Or.inl ⟨h, rfl⟩⟩
  · refine ⟨k, by omega, by rw [h, and255, Nat.mod_eq_of_lt (by omega)], Or.inr ⟨?_, h⟩⟩
    rw [h]
    exact nI_m1 (by omega)
theorem imC {n0 q b m : Nat} {T : TP} {pm : Nat → Int32 × Nat} {s : Nat × List (Nat × Nat)} {MX MY : Mem} {x2 : Int32} (hT : XT n0 q T MX) (hY : YT n0 b T MY) (hS : SX q T.nc T.nd m pm s MX) (hL : LyD 0 T.nc m pm s MY) (hO : PsO T.nt T.nc pm) : ∀ w c M N, c ≤ T.nc → T.nc < w + c → ImR (2 + 3 * c) M N → XIm MX M → YIm MY N → ∃ M' N', xiL n0 w x2 (nI c) M = fX6_writeImage_119 n0 29 x2 0 M' ∧ yiL n0 w (nI c) N = fX12_image_84 n0 0 N' ∧ ImR (2 + 3 * T.nc) M' N' ∧ XIm MX M' ∧ YIm MY N'
  | 0, c, M, N, hc, hw, _, _, _ => by omega
  | w + 1, c, M, N, hc, hw, hI, hx, hy => by
    show ∃ M' N', bX6_writeImage_36 n0 29 (xiL n0 w) x2 (nI c) M = _ ∧ bX12_image_30 n0 (yiL n0 w) (nI c) N = _ ∧ _
    obtain ⟨o1, o2, o3, _⟩ := hT.2.1
    have hb := hY.2.2.1
    have q5 : gI M (128 * gR M 1280 + 5) = nI T.nc := by rw [hx.1, hS.2.1, hx.2.2.2.1]; exact hT.2.2.1
    have i13 : gI N 13 = nI b := (hy.2.2.2.1 13 (by decide)).trans hY.2.2.2.1
    have o13 : ¬ oob (gI N 13) 2 := by rw [i13]; exact nI_in (by omega) (by decide)
    have y5 : gA N 5 (gI N 13).toNatClampNeg = nI T.nc := by rw [i13, nI_clamp (by omega), hy.2.2.2.2 5 (by decide)]; exact hY.2.2.2.2.2.1
    unfold bX6_writeImage_36 bX12_image_30
    by_cases g : c = T.nc
    · subst g
      exact ⟨M, N, eq_t (by rw [q5]; exact Int32.le_refl _) rfl, eq_f o13 (eq_t (by rw [y5]; exact Int32.le_refl _) rfl), hI, hx, hy⟩
    · have hcn : c < T.nc := by omega
      have cc : (nI c).toNatClampNeg = c := nI_clamp (by omega)
      have px := hS.2.2.2.1 c hcn
      have py := hL.1.2 c hcn
      rw [show 5 * 0 + c = c by omega] at py
      have ok := hO c hcn
      have ok2 := ok.2
      obtain ⟨v, v1, v2, v3⟩ := thb ok.1 o1
      obtain ⟨N1, a1, a2, a3⟩ := imp (n0 := n0) hI (by omega) v1 v2
      obtain ⟨N2, b1, b2, b3⟩ := imp (n0 := n0) (v := (pm c).2 / 256) (x := nI (pm c).2 >>> ((8 : Int32) &&& 31)) a2 (by omega) (by omega) (by rw [shr8 (by omega), and255, Nat.mod_eq_of_lt (by omega)])
      obtain ⟨N3, c1, c2, c3⟩ := imp (n0 := n0) (v := (pm c).2 % 256) (x := nI (pm c).2) b2 (by omega) (by omega) (and255 _)
      have fy := hy.tr (a3.tr (b3.tr c3))
      have fx := ((hx.a (i := 2 + 3 * c) (v := nI v)).a (i := 2 + 3 * c + 1) (v := nI ((pm c).2 / 256))).a (i := 2 + 3 * c + 1 + 1) (v := nI ((pm c).2 % 256))
      obtain ⟨M', N', r1, r2, r3, r4, r5⟩ := imC (x2 := x2) hT hY hS hL hO w (c + 1) _ N3 (by omega) (by omega) (show ImR (2 + 3 * (c + 1)) _ _ from c2) fx fy
      have k1 : nI c + 1 = nI (c + 1) := nI_add c 1
      have ix : (2 : Int32) + 3 * nI c = nI (2 + 3 * c) := by rw [n3, show (2 : Int32) = nI 2 from rfl, nI_add]
      have x79 : ∀ M0 : Mem, M0 = M → fX6_writeImage_79 n0 29 (xiL n0 w) x2 (nI c) (nI (2 + 3 * c)) (nI (2 + 3 * c)) (nI v) M0 = xiL n0 w x2 (nI (c + 1)) (sA (sA (sA M 29 (2 + 3 * c) (nI v)) 29 (2 + 3 * c + 1) (nI ((pm c).2 / 256))) 29 (2 + 3 * c + 1 + 1) (nI ((pm c).2 % 256))) := fun M0 e0 => by
        subst e0
        have d0 : (nI (2 + 3 * c)).toNatClampNeg = 2 + 3 * c := nI_clamp (by omega)
        have d1 : (nI (2 + 3 * c + 1)).toNatClampNeg = 2 + 3 * c + 1 := nI_clamp (by omega)
        have d2 : (nI (2 + 3 * c + 2)).toNatClampNeg = 2 + 3 * c + 2 := nI_clamp (by omega)
        have j1 : nI (2 + 3 * c) + 1 = nI (2 + 3 * c + 1) := nI_add _ 1
        have j2 : nI (2 + 3 * c) + 2 = nI (2 + 3 * c + 2) := nI_add _ 2
        have h12 : gA M0 12 c = nI (pm c).2 := by rw [hx.2.2.2.2 12 (by decide)]; exact px.2
        unfold fX6_writeImage_79
        rw [ln29]
        simp only [cc, d0, j1, d1, j2, d2]
        refine eq_f (nI_in (by omega) (by decide)) (eq_n (eq_f (nI_in (by omega) (by decide)) (eq_f (nI_in (by omega) (by decide)) (eq_e (v' := sA (sA M0 29 (2 + 3 * c) (nI v)) 29 (2 + 3 * c + 1) (nI ((pm c).2 / 256))) ?_ (eq_f (nI_in (by omega) (by decide)) (eq_f (nI_in (by omega) (by decide)) (eq_e (v' := sA (sA (sA M0 29 (2 + 3 * c) (nI v)) 29 (2 + 3 * c + 1) (nI ((pm c).2 / 256))) 29 (2 + 3 * c + 1 + 1) (nI ((pm c).2 % 256))) ?_ ?_)))))))
        · rw [gA_sA_ne (by decide), h12, shr8 (by omega)]
        · rw [gA_sA_ne (by decide), gA_sA_ne (by decide), h12, and255]
        · rw [k1]
      refine ⟨M', N', ?_, ?_, r3, r4, r5⟩
      · refine eq_f (by rw [q5]; exact nI_ge hcn (by omega)) (eq_e ix (eq_f (nI_in (by omega) (by decide)) ?_))
        rw [show gA M 11 (nI c).toNatClampNeg = (pm c).1 by rw [cc, hx.2.2.2.2 11 (by decide), px.1]]
        rcases v3 with ⟨z1, z2⟩ | ⟨z1, z2⟩
        · refine eq_t z1 ?_
          subst z2
          exact (x79 M rfl).trans r1
        · refine eq_f z1 (eq_f (nI_in (by omega) (by decide)) ?_)
          rw [z2]
          exact (x79 M rfl).trans r1
      · refine eq_f o13 (eq_f (by rw [y5]; exact nI_ge hcn (by omega)) (eq_f (nI_in (by omega) (by decide)) (eq_b (z := N1) ?_ (eq_f (nI_in (by omega) (by decide)) (eq_b (z := N2) ?_ (eq_f (nI_in (by omega) (by decide)) (eq_b (z := N3) ?_ ?_)))))))
        · rw [cc, hy.2.2.2.2 29 (by decide), py.1]; exact a1
        · rw [cc, (hy.tr a3).2.2.2.2 30 (by decide), py.2]; exact b1
        · rw [cc, (hy.tr (a3.tr b3)).2.2.2.2 30 (by decide), py.2]; exact c1
        · rw [k1]; exact r2
abbrev xiD (n0 : Nat) : Nat → Int32 → Int32 → Mem → Option (Int32 × Mem) := loopN (bX6_writeImage_119 n0 29) (fun _ _ _ => none)
abbrev yiD (n0 : Nat) : Nat → Int32 → Mem → Option (Int32 × Mem) := loopN (bX12_image_84 n0) (fun _ _ => none)
theorem imD {n0 q b m : Nat} {T : TP} {pm : Nat → Int32 × Nat} {s : Nat × List (Nat × Nat)} {MX MY : Mem} {x2 : Int32} (hT : XT n0 q T MX) (hY : YT n0 b T MY) (hS : SX q T.nc T.nd m pm s MX) (hL : LyD 0 T.nc m pm s MY) (hs : sOk T.nd s) : ∀ w d M N, d ≤ T.nd → T.nd < w + d → ImR (2 + 3 * T.nc + d) M N → XIm MX M → YIm MY N → ∃ M' N', xiD n0 w x2 (nI d) M = ((fX6_checkOf n0 29 (x2 - (1 : Int32)) M').bind fun z165 =>
    if oob (x2 - (1 : Int32)) (LX.ln 29) then none else
    bnd (sA z165.2 29 (Int32.toNatClampNeg (x2 - (1 : Int32))) z165.1) fun M168 =>
    some (x2, M168)) ∧ yiD n0 w (nI d) N = fX12_image_131 n0 227 0 N' ∧ ImR (2 + 3 * T.nc + T.nd) M' N' ∧ XIm MX M' ∧ YIm MY N'
  | 0, d, M, N, hd, hw, _, _, _ => by omega
  | w + 1, d, M, N, hd, hw, hI, hx, hy => by
    show ∃ M' N', bX6_writeImage_119 n0 29 (xiD n0 w) x2 (nI d) M = _ ∧ bX12_image_84 n0 (yiD n0 w) (nI d) N = _ ∧ _
    obtain ⟨o1, o2, o3, _⟩ := hT.2.1
    have hb := hY.2.2.1
    have q12 : gI M (128 * gR M 1280 + 12) = nI T.nd := by rw [hx.1, hS.2.1, hx.2.2.2.1]; exact hT.2.2.2.1
    have q5 : gI M (128 * gR M 1280 + 5) = nI T.nc := by rw [hx.1, hS.2.1, hx.2.2.2.1]; exact hT.2.2.1
    have i13 : gI N 13 = nI b := (hy.2.2.2.1 13 (by decide)).trans hY.2.2.2.1
    have o13 : ¬ oob (gI N 13) 2 := by rw [i13]; exact nI_in (by omega) (by decide)
    have y10 : gA N 10 (gI N 13).toNatClampNeg = nI T.nd := by rw [i13, nI_clamp (by omega), hy.2.2.2.2 10 (by decide)]; exact hY.2.2.2.2.2.2.1
    have s64 : s.1 < 64 := Nat.lt_of_lt_of_le hs.1 (p64 o3)
    unfold bX6_writeImage_119 bX12_image_84
    by_cases g : d = T.nd
    · subst g
      exact ⟨M, N, eq_t (by rw [q12]; exact Int32.le_refl _) rfl, eq_f o13 (eq_t (by rw [y10]; exact Int32.le_refl _) rfl), hI, hx, hy⟩
    · have hdn : d < T.nd := by omega
      have cd : (nI d).toNatClampNeg = d := nI_clamp (by omega)
      have b2 : s.1 / 2 ^ d % 2 < 2 := Nat.mod_lt _ (by decide)
      have d13 := hS.2.2.2.2.1 d hdn
      obtain ⟨N1, a1, a2, a3⟩ := imp (n0 := n0) (v := s.1 / 2 ^ d % 2) (x := nI (s.1 / 2 ^ d % 2)) hI (by omega) (by omega) (by rw [and255, Nat.mod_eq_of_lt (by omega)])
      obtain ⟨M', N', r1, r2, r3, r4, r5⟩ := imD (x2 := x2) hT hY hS hL hs w (d + 1) _ N1 (by omega) (by omega) (show ImR (2 + 3 * T.nc + (d + 1)) _ _ from a2) hx.a (hy.tr a3)
      have k1 : nI d + 1 = nI (d + 1) := nI_add d 1
      have ix : (2 : Int32) + 3 * gI M (128 * gR M 1280 + 5) + nI d = nI (2 + 3 * T.nc + d) := by rw [q5, n3, show (2 : Int32) = nI 2 from rfl, nI_add, nI_add]
      refine ⟨M', N', eq_f (by rw [q12]; exact nI_ge hdn (by omega)) (eq_f (nI_in (by omega) (by decide)) (eq_f ?_ (eq_e (v' := sA M 29 (2 + 3 * T.nc + d) (nI (s.1 / 2 ^ d % 2))) ?_ ?_))), eq_f o13 (eq_f (by rw [y10]; exact nI_ge hdn (by omega)) (eq_f (by decide) (eq_b (z := (bI (s.1 / 2 ^ d % 2 = 1), N)) ?_ ?_))), r3, r4, r5⟩
      · rw [ix, ln29]; exact nI_in (by omega) (by decide)
      · rw [ix, nI_clamp (by omega), cd, hx.2.2.2.2 13 (by decide), d13]
      · rw [k1]; exact r1
      · rw [show gA N 31 (Int32.toNatClampNeg 0) = nI s.1 by rw [hy.2.2.2.2 31 (by decide)]; exact hL.2.1]
        exact yhas2 s64 (by omega)
      · have st : ∀ u, u = nI (s.1 / 2 ^ d % 2) → fX12_image_116 n0 (yiD n0 w) (nI d) u N = fX12_image_131 n0 227 0 N' := fun u e => by
          unfold fX12_image_116
          rw [e, k1]
          exact eq_b a1 r2
        by_cases z : s.1 / 2 ^ d % 2 = 1
        · exact eq_f (show ¬ bI (s.1 / 2 ^ d % 2 = 1) = 0 by rw [bI_t z]; decide) (st 1 (by rw [z]; rfl))
        · exact eq_t (show bI (s.1 / 2 ^ d % 2 = 1) = 0 from bI_f z) (st 0 (by rw [show s.1 / 2 ^ d % 2 = 0 by omega]; rfl))
theorem yck {n0 n : Nat} {bv : Nat → Nat} {N : Mem} (hn : n ≤ 24) (h67 : gI N 67 = nI n) (hb : ∀ j, j < n → gA N 43 j = nI (bv j) ∧ bv j < 256) : ∀ w k, k ≤ n → n < w + k → loopN (bX12_image_131 n0) (fun _ _ _ => none) w (nI (ckN bv k)) (nI k) N = (fX12_writes n0 (nI (ckN bv n)) N).bind (fun z162 => some ((gI z162 67), z162))
  | 0, k, hk, hw => by omega
  | w + 1, k, hk, hw => by
    show bX12_image_131 n0 (loopN (bX12_image_131 n0) (fun _ _ _ => none) w) (nI (ckN bv k)) (nI k) N = _
    unfold bX12_image_131
    by_cases g : k = n
    · rw [g]
      exact eq_t (by rw [h67]; exact Int32.le_refl _) rfl
    · have ck : (nI k).toNatClampNeg = k := nI_clamp (by omega)
      refine eq_f (by rw [h67]; exact nI_ge (by omega) (by omega)) (eq_f (nI_in (by omega) (by decide)) (eq_f (by decide) (eq_e (v' := nI (ckN bv (k + 1))) ?_ ?_)))
      · rw [ck, (hb k (by omega)).1, ck1 (hb k (by omega)).2]
      · rw [show nI k + 1 = nI (k + 1) from nI_add k 1]
        exact yck (n0 := n0) hn h67 hb w (k + 1) (by omega) (by omega)
theorem cImage {n0 : Nat} {MX MY : Mem} (hn : 1700 ≤ n0) (h : R n0 MX MY) : Cal n0 (fX11_image n0 MX) (fX12_image n0 MY) := by
  obtain ⟨q, b, T, nr, C, m, pm, s, h⟩ := h
  obtain ⟨h1, h2, h3, h4, h5, h6, h7⟩ := id h
  obtain ⟨o1, o2, o3, _⟩ := h1.2.2.2.1.2.1
  have hm := h2.1
  have hx := h1.2.2.2.1
  have hy := h1.2.2.2.2.1
  -- the minute
  have I0 : ImR 0 MX (sI MY 67 0) := ⟨gI_at, fun k hk => by omega⟩
  obtain ⟨N1, a1, a2, a3⟩ := imp (n0 := n0) (v := m / 256) (x := nI m >>> ((8 : Int32) &&& 31)) I0 (by decide) (by omega) (by rw [shr8 (by omega), and255, Nat.mod_eq_of_lt (by omega)])
  obtain ⟨N2, b1, b2, b3⟩ := imp (n0 := n0) (v := m % 256) (x := nI m) a2 (by decide) (by omega) (and255 _)
  have y0 : YIm MY (sI MY 67 0) := ⟨rfl, rfl, rfl, fun k z => gI_ne z, fun _ _ => rfl⟩
  have y2 := y0.tr (a3.tr b3)
  obtain ⟨M3, N3, c1, c2, c3, c4, c5⟩ := imC (n0 := n0) (x2 := nI (2 + 3 * T.nc + T.nd + 1)) hx hy h3 h4 h2.2.1 n0 0 _ N2 (by omega) (by omega) b2 (XIm.r.a.a) y2
  obtain ⟨M4, N4, d1, d2, d3, d4, d5⟩ := imD (n0 := n0) (x2 := nI (2 + 3 * T.nc + T.nd + 1)) hx hy h3 h4 h2.2.2 n0 0 M3 N3 (by omega) (by omega) c3 c4 c5
  have bvx : ∀ j, j < 2 + 3 * T.nc + T.nd → gA M4 29 j = nI ((gA M4 29 j).toNatClampNeg) ∧ (gA M4 29 j).toNatClampNeg < 256 := fun j hj => by
    obtain ⟨v, v1, v2, _⟩ := d3.2 j hj
    rw [v2, nI_clamp (by omega)]
    exact ⟨rfl, v1⟩
  have bvy : ∀ j, j < 2 + 3 * T.nc + T.nd → gA N4 43 j = nI ((gA M4 29 j).toNatClampNeg) ∧ (gA M4 29 j).toNatClampNeg < 256 := fun j hj => by
    obtain ⟨v, v1, v2, v3⟩ := d3.2 j hj
    rw [v2, nI_clamp (by omega), v3]
    exact ⟨rfl, v1⟩
  have ckl := ckN_lt (fun j => (gA M4 29 j).toNatClampNeg) (2 + 3 * T.nc + T.nd)
  have e1 : fX6_checkOf n0 29 (nI (2 + 3 * T.nc + T.nd)) M4 = some (nI (ckN (fun j => (gA M4 29 j).toNatClampNeg) (2 + 3 * T.nc + T.nd)), M4) := xck (by rw [ln29]; omega) (by rw [ln29]; decide) bvx n0 0 (by omega) (by omega)
  have e2 := yck (n0 := n0) (n := 2 + 3 * T.nc + T.nd) (N := N4) (by omega) d3.1 bvy n0 0 (by omega) (by omega)
  obtain ⟨N5, f1, f2, f3⟩ := imp (n0 := n0) (v := ckN (fun j => (gA M4 29 j).toNatClampNeg) (2 + 3 * T.nc + T.nd)) (x := nI (ckN (fun j => (gA M4 29 j).toNatClampNeg) (2 + 3 * T.nc + T.nd))) d3 (by omega) (by omega) (by rw [and255, Nat.mod_eq_of_lt (by omega)])
  have sz : nI (2 + 3 * T.nc + T.nd + 1) - 1 = nI (2 + 3 * T.nc + T.nd) := nIs _
  have fx := d4.a (i := 2 + 3 * T.nc + T.nd) (v := nI (ckN (fun j => (gA M4 29 j).toNatClampNeg) (2 + 3 * T.nc + T.nd)))
  have fy := d5.tr f3
  refine ⟨nI (2 + 3 * T.nc + T.nd + 1), sI (sA M4 29 (2 + 3 * T.nc + T.nd) (nI (ckN (fun j => (gA M4 29 j).toNatClampNeg) (2 + 3 * T.nc + T.nd)))) 14 (nI (2 + 3 * T.nc + T.nd + 1)), N5, ?_, ?_, q, b, T, nr, C, m, pm, s, h.ou ⟨fx.1, fun k z => by rw [gI_ne (by omega), fx.2.2.2.1], fun a z => fx.2.2.2.2 a (by omega)⟩ ⟨fun k z => fy.2.2.2.1 k (by omega), fun a z => fy.2.2.2.2 a (by omega), fy.2.2.1⟩ ?_⟩
  · unfold fX11_image
    refine eq_b (z := (nI (2 + 3 * T.nc + T.nd + 1), sA M4 29 (2 + 3 * T.nc + T.nd) (nI (ckN (fun j => (gA M4 29 j).toNatClampNeg) (2 + 3 * T.nc + T.nd))))) ?_ (eq_n (by rw [gI_at]))
    unfold fX6_writeImage fX6_imageSize
    have q5 : gI MX (128 * gR MX 1280 + 5) = nI T.nc := by rw [h3.2.1]; exact hx.2.2.1
    have q12 : gI MX (128 * gR MX 1280 + 12) = nI T.nd := by rw [h3.2.1]; exact hx.2.2.2.1
    have ez : (2 : Int32) + 3 * gI MX (128 * gR MX 1280 + 5) + gI MX (128 * gR MX 1280 + 12) + 1 = nI (2 + 3 * T.nc + T.nd + 1) := by
      rw [q5, q12, n3, show (2 : Int32) = nI 2 from rfl, nI_add, nI_add]
      exact nI_add _ 1
    rw [ez, ln29]
    refine eq_b rfl (eq_t (nI_le (b := 24) (by omega) (by decide)) (eq_f (by decide) (eq_e (v' := sA MX 29 0 (nI (m / 256))) ?_ (eq_f (by decide) (eq_e (v' := sA (sA MX 29 0 (nI (m / 256))) 29 (0 + 1) (nI (m % 256))) ?_ ?_)))))
    · show sA MX 29 0 (gI MX 1281 >>> ((8 : Int32) &&& 31)) = _
      rw [h3.2.2.1, shr8 (by omega)]
    · show sA (sA MX 29 0 (nI (m / 256))) 29 1 (gI MX 1281 &&& 255) = _
      rw [h3.2.2.1, and255]
    · refine Eq.trans c1 (Eq.trans d1 ?_)
      rw [sz, ln29]
      refine eq_b e1 (eq_f (nI_in (by omega) (by decide)) (eq_e (v' := sA M4 29 (2 + 3 * T.nc + T.nd) (nI (ckN (fun j => (gA M4 29 j).toNatClampNeg) (2 + 3 * T.nc + T.nd)))) ?_ rfl))
      rw [nI_clamp (by omega)]
  · unfold fX12_image
    refine eq_n (eq_f (by decide) (eq_b (z := N1) ?_ (eq_f (by decide) (eq_b (z := N2) ?_ (Eq.trans c2 (Eq.trans d2 (Eq.trans e2 (eq_b f1 ?_))))))))
    · rw [show gA (sI MY 67 0) 28 (Int32.toNatClampNeg 0) = nI m from h4.1.1]; exact a1
    · rw [show gA N1 28 (Int32.toNatClampNeg 0) = nI m by rw [(y0.tr a3).2.2.2.2 28 (by decide)]; exact h4.1.1]; exact b1
    · rw [f2.1]
  · obtain ⟨p1, p2, p3, p4, p5, p6⟩ := h7
    refine ⟨p1.cg (by rw [gI_ne (by decide), fx.2.2.2.1]) (by rw [fy.2.1]), ⟨2 + 3 * T.nc + T.nd + 1, by omega, gI_at, f2.1, fun k hk => ?_⟩, p3.cg (fx.2.2.2.2 30 (by decide)) (fy.2.2.2.2 27 (by decide)), p4.cg (by rw [gI_ne (by decide), fx.2.2.2.1]) (by rw [gI_ne (by decide), fx.2.2.2.1]) (fy.2.2.2.1 10 (by decide)) (fy.2.2.2.1 11 (by decide)), p5.cg (by rw [gI_ne (by decide), fx.2.2.2.1]) (fy.2.2.2.1 1 (by decide)) (fx.2.2.2.2 6 (by decide)) (fy.2.2.2.2 1 (by decide)), p6.cg (fx.2.2.2.2 4 (by decide))⟩
    obtain ⟨v, _, v2, v3⟩ := f2.2 k hk
    exact v2.trans v3.symm
end
section
/-! ON: an image is read on both sides -/
theorem nOr (a b : Nat) : nI a ||| nI b = nI (a ||| b) := by
  apply Int32.toBitVec_inj.1
  show BitVec.ofNat 32 a ||| BitVec.ofNat 32 b = BitVec.ofNat 32 (a ||| b)
  exact BitVec.ofNat_or.symm
theorem pair8 {a c : Nat} (ha : a ≤ 255) (hc : c ≤ 255) : (nI a <<< ((8 : Int32) &&& 31)) ||| nI c = nI (256 * a + c) := by
  rw [pk_shlN _ 8 (by decide) (by omega), nOr, Nat.mul_comm]
  congr 1
  exact (Nat.two_pow_add_eq_or_of_lt (i := 8) (show c < 2 ^ 8 by omega) a).symm
theorem bt_on1 : ∀ d, d < 6 → ∀ D, D < 64 → D < 2 ^ d → ∀ v, v < 2 → (nI D ||| (nI v <<< (nI d &&& 31)) = nI (D + v * 2 ^ d)) := by decide +kernel
theorem bt_on2 : ∀ d, d < 6 → ∀ D, D < 64 → D < 2 ^ d → ∀ v, v < 2 → D + v * 2 ^ d < 2 ^ (d + 1) := by decide +kernel
theorem bt_on3 : ∀ d, d < 6 → ∀ D, D < 64 → D < 2 ^ d → ∀ v, v < 2 → (D + v * 2 ^ d) / 2 ^ d % 2 = v := by decide +kernel
theorem bt_on4 : ∀ d, d < 6 → ∀ D, D < 64 → ∀ v, v < 2 → ∀ e, e < d → (D + v * 2 ^ d) / 2 ^ e % 2 = D / 2 ^ e % 2 := by decide +kernel
def Dn (f : Nat → Nat) : Nat → Nat
  | 0 => 0
  | d + 1 => Dn f d + f d * 2 ^ d
theorem Dn_ok {f : Nat → Nat} {n : Nat} (hn : n ≤ 6) (hf : ∀ d, d < n → f d ≤ 1) : ∀ d, d ≤ n → Dn f d < 2 ^ d ∧ ∀ e, e < d → Dn f d / 2 ^ e % 2 = f e
  | 0, _ => ⟨Nat.zero_lt_one, fun e he => by omega⟩
  | d + 1, hd => by
    obtain ⟨a1, a2⟩ := Dn_ok hn hf d (by omega)
    have p := p64 (n := d) (by omega)
    have h1 := hf d (by omega)
    have b2 := bt_on2 d (by omega) (Dn f d) (by omega) a1 (f d) (by omega)
    have b3 := bt_on3 d (by omega) (Dn f d) (by omega) a1 (f d) (by omega)
    have b4 := bt_on4 d (by omega) (Dn f d) (by omega) (f d) (by omega)
    refine ⟨b2, fun e he => ?_⟩
    by_cases z : e = d
    · rw [z]; exact b3
    · exact (b4 e (by omega)).trans (a2 e (by omega))
/-- bytes of a tape -/
def Bv (t : Nat → Int32) (bv : Nat → Nat) (L : Nat) : Prop := ∀ i, i < L → t i = nI (bv i) ∧ bv i ≤ 255
theorem byt_bv {t : Nat → Int32} {L : Nat} (h : Byt t L) : Bv t (fun i => (t i).toNatClampNeg) L := fun i hi => by
  obtain ⟨v, v1, v2⟩ := byt_v h hi
  dsimp only
  rw [v2, nI_clamp (by omega)]
  exact ⟨rfl, v1⟩
theorem xatb {n0 L i : Nat} {bv : Nat → Nat} {M : Mem} (hL : gI M 641 = nI L) (h16 : L ≤ 1600) (hb : Bv (gA M 6) bv L) (hi : i < L) : fX7_at n0 (nI i) M = some (nI (bv i), M) := by rw [xat hL h16 hi, (hb i hi).1]
theorem xpair {n0 L i : Nat} {bv : Nat → Nat} {M : Mem} (hL : gI M 641 = nI L) (h16 : L ≤ 1600) (hb : Bv (gA M 6) bv L) (hi : i + 1 < L) : fX7_pairAt n0 (nI i) M = some (nI (256 * bv i + bv (i + 1)), M) := by
  unfold fX7_pairAt
  refine eq_b (xatb hL h16 hb (by omega)) (eq_b (z := (nI (bv (i + 1)), M)) ?_ ?_)
  · rw [show nI i + 1 = nI (i + 1) from nI_add i 1]
    exact xatb hL h16 hb hi
  · show some ((256 : Int32) * nI (bv i) + nI (bv (i + 1)), M) = _
    rw [show (256 : Int32) = nI 256 from rfl, nI_mul, nI_add]
def okC (bv : Nat → Nat) (nt c : Nat) : Prop := (bv (2 + 3 * c) = 255 ∨ bv (2 + 3 * c) < nt) ∧ 256 * bv (3 + 3 * c) + bv (4 + 3 * c) ≤ 999
abbrev xoC (n0 : Nat) : Nat → Int32 → Int32 → Mem → Option (Int32 × Mem) := loopN (bX6_isImage_28 n0) (fun _ _ _ => none)
theorem xon28 {n0 q L : Nat} {T : TP} {bv : Nat → Nat} {M : Mem} {x2 : Int32} (hT : XT n0 q T M) (hq : gR M 1280 = q) (hL : gI M 641 = nI L) (h16 : L ≤ 1600) (hb : Bv (gA M 6) bv L) (hs : L = 2 + 3 * T.nc + T.nd + 1) : ∀ w c, c ≤ T.nc → T.nc < w + c → (xoC n0 w x2 (nI c) M = fX6_isImage_107 n0 x2 0 M ∧ ∀ j, c ≤ j → j < T.nc → okC bv T.nt j) ∨ (xoC n0 w x2 (nI c) M = some (0, M) ∧ ¬ ∀ j, c ≤ j → j < T.nc → okC bv T.nt j)
  | 0, c, hc, hw => by omega
  | w + 1, c, hc, hw => by
    show (bX6_isImage_28 n0 (xoC n0 w) x2 (nI c) M = _ ∧ _) ∨ (bX6_isImage_28 n0 (xoC n0 w) x2 (nI c) M = _ ∧ _)
    obtain ⟨o1, o2, o3, _⟩ := hT.2.1
    have q5 : gI M (128 * gR M 1280 + 5) = nI T.nc := by rw [hq]; exact hT.2.2.1
    unfold bX6_isImage_28
    by_cases g : c = T.nc
    · exact Or.inl ⟨eq_t (by rw [q5, g]; exact Int32.le_refl _) rfl, fun j h1 h2 => by omega⟩
    · have hcn : c < T.nc := by omega
      have st : ¬ gI M (128 * gR M 1280 + 5) ≤ nI c := by rw [q5]; exact nI_ge hcn (by omega)
      have ix : (2 : Int32) + 3 * nI c = nI (2 + 3 * c) := by rw [n3, show (2 : Int32) = nI 2 from rfl, nI_add]
      have ix3 : (3 : Int32) + 3 * nI c = nI (3 + 3 * c) := by rw [n3, show (3 : Int32) = nI 3 from rfl, nI_add]
      have a1 := xatb (n0 := n0) hL h16 hb (i := 2 + 3 * c) (by omega)
      have a2 := xpair (n0 := n0) hL h16 hb (i := 3 + 3 * c) (by omega)
      have b0 := (hb (2 + 3 * c) (by omega)).2
      have b1 := (hb (3 + 3 * c) (by omega)).2
      have b2 := (hb (3 + 3 * c + 1) (by omega)).2
      have e4 : 3 + 3 * c + 1 = 4 + 3 * c := by omega
      rw [e4] at a2 b2
      have k1 : nI c + 1 = nI (c + 1) := nI_add c 1
      rw [ix]
      by_cases g1 : bv (2 + 3 * c) = 255 ∨ bv (2 + 3 * c) < T.nt
      · have go : ∀ r, fX6_isImage_70 n0 (xoC n0 w) x2 (nI c) M = r → (fX7_at n0 (nI (2 + 3 * c)) M).bind (fun z45 => if z45.1 = (255 : Int32) then fX6_isImage_70 n0 (xoC n0 w) x2 (nI c) z45.2 else (fX9_isThing n0 (gR z45.2 1280) z45.1 z45.2).bind fun z64 => if z64.1 = 0 then fX6_isImage_75 n0 (xoC n0 w) x2 (nI c) (0 : Int32) z64.2 else fX6_isImage_70 n0 (xoC n0 w) x2 (nI c) z64.2) = r := fun r hr => by
          refine eq_b a1 ?_
          by_cases g2 : bv (2 + 3 * c) = 255
          · exact eq_t (by rw [g2]; rfl) hr
          · refine eq_f (fun z => g2 ((nI_eq (b := 255) (by omega) (by decide)).mp z)) (eq_b (z := (1, M)) ?_ (eq_f (show ¬ (1 : Int32) = 0 by decide) hr))
            show fX9_isThing n0 (gR M 1280) (nI (bv (2 + 3 * c))) M = _
            rw [hq]
            exact xTht hT.1.2.2.1 o1 (g1.resolve_left g2)
        by_cases g3 : 256 * bv (3 + 3 * c) + bv (4 + 3 * c) ≤ 999
        · have sx : fX6_isImage_70 n0 (xoC n0 w) x2 (nI c) M = xoC n0 w x2 (nI (c + 1)) M := by
            unfold fX6_isImage_70 fX6_isImage_75
            rw [ix3, k1]
            exact eq_f (by decide) (eq_b a2 (eq_t (nI_le (b := 999) g3 (by decide)) rfl))
          rcases xon28 (x2 := x2) hT hq hL h16 hb hs w (c + 1) (by omega) (by omega) with ⟨r1, r2⟩ | ⟨r1, r2⟩
          · refine Or.inl ⟨eq_f st (go _ (sx.trans r1)), fun j h1 h2 => ?_⟩
            by_cases z : j = c
            · rw [z]; exact ⟨g1, g3⟩
            · exact r2 j (by omega) h2
          · exact Or.inr ⟨eq_f st (go _ (sx.trans r1)), fun z => r2 (fun j h1 h2 => z j (by omega) h2)⟩
        · refine Or.inr ⟨eq_f st (go _ ?_), fun z => g3 (z c (by omega) hcn).2⟩
          unfold fX6_isImage_70 fX6_isImage_75
          rw [ix3]
          exact eq_f (by decide) (eq_b a2 (eq_f (nI_ge (a := 999) (by omega) (by omega)) rfl))
      · refine Or.inr ⟨eq_f st (eq_b a1 (eq_f (fun z => g1 (Or.inl ((nI_eq (b := 255) (by omega) (by decide)).mp z))) (eq_b (z := (0, M)) ?_ (eq_t rfl ?_)))), fun z => g1 (z c (by omega) hcn).1⟩
        · show fX9_isThing n0 (gR M 1280) (nI (bv (2 + 3 * c))) M = _
          rw [hq]
          exact xThf hT.1.2.2.1 (Or.inr (nI_le (by omega) (by omega)))
        · unfold fX6_isImage_75
          exact eq_t rfl rfl
abbrev xoD (n0 : Nat) : Nat → Int32 → Int32 → Mem → Option (Int32 × Mem) := loopN (bX6_isImage_107 n0) (fun _ _ _ => none)
theorem xon107 {n0 q L : Nat} {T : TP} {bv : Nat → Nat} {M : Mem} (hn : 1700 ≤ n0) (hT : XT n0 q T M) (hq : gR M 1280 = q) (hL : gI M 641 = nI L) (h16 : L ≤ 1600) (hb : Bv (gA M 6) bv L) (hs : L = 2 + 3 * T.nc + T.nd + 1) : ∀ w d, d ≤ T.nd → T.nd < w + d → (xoD n0 w (nI L) (nI d) M = some (1, M) ∧ (∀ j, d ≤ j → j < T.nd → bv (2 + 3 * T.nc + j) ≤ 1) ∧ bv (L - 1) = ckN bv (L - 1)) ∨ (xoD n0 w (nI L) (nI d) M = some (0, M) ∧ ¬ ((∀ j, d ≤ j → j < T.nd → bv (2 + 3 * T.nc + j) ≤ 1) ∧ bv (L - 1) = ckN bv (L - 1)))
  | 0, d, hd, hw => by omega
  | w + 1, d, hd, hw => by
    show (bX6_isImage_107 n0 (xoD n0 w) (nI L) (nI d) M = _ ∧ _) ∨ (bX6_isImage_107 n0 (xoD n0 w) (nI L) (nI d) M = _ ∧ _)
    obtain ⟨o1, o2, o3, _⟩ := hT.2.1
    have q5 : gI M (128 * gR M 1280 + 5) = nI T.nc := by rw [hq]; exact hT.2.2.1
    have q12 : gI M (128 * gR M 1280 + 12) = nI T.nd := by rw [hq]; exact hT.2.2.2.1
    have l1 : nI L - 1 = nI (L - 1) := by
      rw [show L = (L - 1) + 1 by omega]
      exact nIs _
    have ln6 : LX.ln 6 = 1600 := rfl
    unfold bX6_isImage_107
    by_cases g : d = T.nd
    · have e1 : fX6_checkOf n0 6 (nI (L - 1)) M = some (nI (ckN bv (L - 1)), M) := xck (by rw [ln6]; omega) (by rw [ln6]; decide) (fun j hj => ⟨(hb j (by omega)).1, by have := (hb j (by omega)).2; omega⟩) n0 0 (by omega) (by omega)
      have a1 := xatb (n0 := n0) hL h16 hb (i := L - 1) (by omega)
      have b1 := (hb (L - 1) (by omega)).2
      have c1 := ckN_lt bv (L - 1)
      rw [l1]
      by_cases z : bv (L - 1) = ckN bv (L - 1)
      · exact Or.inl ⟨eq_t (by rw [q12, g]; exact Int32.le_refl _) (eq_b a1 (eq_b e1 (eq_t (congrArg nI z) rfl))), fun j h1 h2 => by omega, z⟩
      · exact Or.inr ⟨eq_t (by rw [q12, g]; exact Int32.le_refl _) (eq_b a1 (eq_b e1 (eq_f (fun y => z ((nI_eq (by omega) (by omega)).mp y)) rfl))), fun y => z y.2⟩
    · have hdn : d < T.nd := by omega
      have st : ¬ gI M (128 * gR M 1280 + 12) ≤ nI d := by rw [q12]; exact nI_ge hdn (by omega)
      have ix : (2 : Int32) + 3 * gI M (128 * gR M 1280 + 5) + nI d = nI (2 + 3 * T.nc + d) := by rw [q5, n3, show (2 : Int32) = nI 2 from rfl, nI_add, nI_add]
      have a1 := xatb (n0 := n0) hL h16 hb (i := 2 + 3 * T.nc + d) (by omega)
      have b1 := (hb (2 + 3 * T.nc + d) (by omega)).2
      rw [ix]
      by_cases z : bv (2 + 3 * T.nc + d) ≤ 1
      · rcases xon107 hn hT hq hL h16 hb hs w (d + 1) (by omega) (by omega) with ⟨r1, r2, r3⟩ | ⟨r1, r2⟩
        · refine Or.inl ⟨eq_f st (eq_b a1 (eq_t (nI_le (b := 1) z (by decide)) ?_)), fun j h1 h2 => ?_, r3⟩
          · rw [show nI d + 1 = nI (d + 1) from nI_add d 1]; exact r1
          · by_cases y : j = d
            · rw [y]; exact z
            · exact r2 j (by omega) h2
        · refine Or.inr ⟨eq_f st (eq_b a1 (eq_t (nI_le (b := 1) z (by decide)) ?_)), fun y => r2 ⟨fun j h1 h2 => y.1 j (by omega) h2, y.2⟩⟩
          rw [show nI d + 1 = nI (d + 1) from nI_add d 1]; exact r1
      · exact Or.inr ⟨eq_f st (eq_b a1 (eq_f (nI_ge (a := 1) (by omega) (by omega)) rfl)), fun y => z (y.1 d (by omega) hdn)⟩
/-- an image of this town -/
def isIm (T : TP) (bv : Nat → Nat) (L : Nat) : Prop := L = 2 + 3 * T.nc + T.nd + 1 ∧ 256 * bv 0 + bv 1 ≤ 9999 ∧ (∀ j, j < T.nc → okC bv T.nt j) ∧ (∀ j, j < T.nd → bv (2 + 3 * T.nc + j) ≤ 1) ∧ bv (L - 1) = ckN bv (L - 1)
theorem xisIm {n0 q L : Nat} {T : TP} {bv : Nat → Nat} {M : Mem} (hn : 1700 ≤ n0) (hT : XT n0 q T M) (hq : gR M 1280 = q) (hL : gI M 641 = nI L) (h16 : L ≤ 1600) (hb : Bv (gA M 6) bv L) : (fX6_isImage n0 M = some (1, M) ∧ isIm T bv L) ∨ (fX6_isImage n0 M = some (0, M) ∧ ¬ isIm T bv L) := by
  obtain ⟨o1, o2, o3, _⟩ := hT.2.1
  have q5 : gI M (128 * gR M 1280 + 5) = nI T.nc := by rw [hq]; exact hT.2.2.1
  have q12 : gI M (128 * gR M 1280 + 12) = nI T.nd := by rw [hq]; exact hT.2.2.2.1
  have ez : (2 : Int32) + 3 * gI M (128 * gR M 1280 + 5) + gI M (128 * gR M 1280 + 12) + 1 = nI (2 + 3 * T.nc + T.nd + 1) := by
    rw [q5, q12, n3, show (2 : Int32) = nI 2 from rfl, nI_add, nI_add]
    exact nI_add _ 1
  unfold fX6_isImage fX6_imageSize
  rw [ez]
  by_cases g1 : L = 2 + 3 * T.nc + T.nd + 1
  · have a0 : fX7_pairAt n0 (nI 0) M = some (nI (256 * bv 0 + bv 1), M) := xpair (n0 := n0) hL h16 hb (i := 0) (by omega)
    have b0 := (hb 0 (by omega)).2
    have b1 := (hb 1 (by omega)).2
    have h1 : gI M 641 = nI (2 + 3 * T.nc + T.nd + 1) := by rw [hL, g1]
    by_cases g2 : 256 * bv 0 + bv 1 ≤ 9999
    · rw [← g1] at h1 ⊢
      rcases xon28 (n0 := n0) (x2 := nI L) hT hq hL h16 hb g1 n0 0 (by omega) (by omega) with ⟨r1, r2⟩ | ⟨r1, r2⟩
      · rcases xon107 hn hT hq hL h16 hb g1 n0 0 (by omega) (by omega) with ⟨s1, s2, s3⟩ | ⟨s1, s2⟩
        · exact Or.inl ⟨eq_b rfl (eq_t h1 (eq_b a0 (eq_t (nI_le (b := 9999) g2 (by decide)) (r1.trans s1)))), g1, g2, fun j hj => r2 j (by omega) hj, fun j hj => s2 j (by omega) hj, s3⟩
        · exact Or.inr ⟨eq_b rfl (eq_t h1 (eq_b a0 (eq_t (nI_le (b := 9999) g2 (by decide)) (r1.trans s1)))), fun y => s2 ⟨fun j _ hj => y.2.2.2.1 j hj, y.2.2.2.2⟩⟩
      · exact Or.inr ⟨eq_b rfl (eq_t h1 (eq_b a0 (eq_t (nI_le (b := 9999) g2 (by decide)) r1))), fun y => r2 (fun j _ hj => y.2.2.1 j hj)⟩
    · exact Or.inr ⟨eq_b rfl (eq_t h1 (eq_b a0 (eq_f (nI_ge (a := 9999) (by omega) (by omega)) rfl))), fun y => g2 y.2.1⟩
  · exact Or.inr ⟨eq_b rfl (eq_f (by rw [hL]; exact fun z => g1 ((nI_eq (by omega) (by omega)).mp z)) rfl), fun y => g1 y.1⟩
/-- what an image tells of a palm -/
def pIm (bv : Nat → Nat) : Nat → Int32 × Nat := fun c => (if bv (2 + 3 * c) = 255 then -1 else nI (bv (2 + 3 * c)), 256 * bv (3 + 3 * c) + bv (4 + 3 * c))
abbrev xrC (n0 : Nat) : Nat → Int32 → Mem → Option Mem := loopN (bX6_readImage_16 n0) (fun _ _ => none)
abbrev xrD (n0 : Nat) : Nat → Int32 → Mem → Option Mem := loopN (bX6_readImage_78 n0) (fun _ _ => none)
theorem xrd78 {n0 nc nd L : Nat} {bv : Nat → Nat} (h5 : nc ≤ 5) (h6 : nd ≤ 6) (h16 : L ≤ 1600) (hs : L = 2 + 3 * nc + nd + 1) : ∀ w d M, d ≤ nd → nd < w + d → gI M (128 * gR M 1280 + 5) = nI nc → gI M (128 * gR M 1280 + 12) = nI nd → gI M 641 = nI L → Bv (gA M 6) bv L → ∃ M', xrD n0 w (nI d) M = some M' ∧ (∀ e, d ≤ e → e < nd → gA M' 13 e = nI (bv (2 + 3 * nc + e))) ∧ gR M' = gR M ∧ gL M' = gL M ∧ gB M' = gB M ∧ gI M' = gI M ∧ ∀ a i, ¬ (a = 13 ∧ d ≤ i) → gA M' a i = gA M a i
  | 0, d, M, hd, hw, _, _, _, _ => by omega
  | w + 1, d, M, hd, hw, q5, q12, hL, hb => by
    show ∃ M', bX6_readImage_78 n0 (xrD n0 w) (nI d) M = _ ∧ _
    unfold bX6_readImage_78
    by_cases g : d = nd
    · exact ⟨M, eq_t (by rw [q12, g]; exact Int32.le_refl _) rfl, fun e h1 h2 => by omega, rfl, rfl, rfl, rfl, fun _ _ _ => rfl⟩
    · have cd : (nI d).toNatClampNeg = d := nI_clamp (by omega)
      have ix : (2 : Int32) + 3 * gI M (128 * gR M 1280 + 5) + nI d = nI (2 + 3 * nc + d) := by rw [q5, n3, show (2 : Int32) = nI 2 from rfl, nI_add, nI_add]
      obtain ⟨M', r1, r2, r3, r4, r5, r6, r7⟩ := xrd78 (n0 := n0) h5 h6 h16 hs w (d + 1) (sA M 13 d (nI (bv (2 + 3 * nc + d)))) (by omega) (by omega) q5 q12 hL (by rw [gA_sA_ne (by decide)]; exact hb)
      refine ⟨M', eq_f (by rw [q12]; exact nI_ge (by omega) (by omega)) (eq_b (z := (nI (bv (2 + 3 * nc + d)), M)) (by rw [ix]; exact xatb hL h16 hb (by omega)) (eq_f (nI_in (by omega) (by decide)) (eq_e (v' := sA M 13 d (nI (bv (2 + 3 * nc + d)))) (by rw [cd]) ?_))), fun e h1 h2 => ?_, r3, r4, r5, r6, fun a i z => ?_⟩
      · rw [show nI d + 1 = nI (d + 1) from nI_add d 1]
        exact r1
      · by_cases h : e = d
        · rw [h, r7 13 d (by omega), gA_sA, if_pos rfl, if_pos rfl]
        · exact r2 e (by omega) h2
      · rw [r7 a i (by omega), gA_sA]
        by_cases h : a = 13
        · rw [if_pos h, if_neg (by omega), h]
        · rw [if_neg h]
theorem xrd16 {n0 nc nd L : Nat} {bv : Nat → Nat} (hn : 1700 ≤ n0) (h5 : nc ≤ 5) (h6 : nd ≤ 6) (h16 : L ≤ 1600) (hs : L = 2 + 3 * nc + nd + 1) : ∀ w c M, c ≤ nc → nc < w + c → gI M (128 * gR M 1280 + 5) = nI nc → gI M (128 * gR M 1280 + 12) = nI nd → gI M 641 = nI L → Bv (gA M 6) bv L → ∃ M', xrC n0 w (nI c) M = some M' ∧ (∀ j, c ≤ j → j < nc → gA M' 11 j = (pIm bv j).1 ∧ gA M' 12 j = nI (pIm bv j).2) ∧ (∀ e, e < nd → gA M' 13 e = nI (bv (2 + 3 * nc + e))) ∧ gR M' = gR M ∧ gL M' = gL M ∧ gB M' = gB M ∧ gI M' = gI M ∧ ∀ a i, ¬ (a = 13 ∨ ((a = 11 ∨ a = 12) ∧ c ≤ i)) → gA M' a i = gA M a i
  | 0, c, M, hc, hw, _, _, _, _ => by omega
  | w + 1, c, M, hc, hw, q5, q12, hL, hb => by
    show ∃ M', bX6_readImage_16 n0 (xrC n0 w) (nI c) M = _ ∧ _
    unfold bX6_readImage_16
    by_cases g : c = nc
    · obtain ⟨M', r1, r2, r3, r4, r5, r6, r7⟩ := xrd78 (n0 := n0) h5 h6 h16 hs n0 0 M (by omega) (by omega) q5 q12 hL hb
      exact ⟨M', eq_t (by rw [q5, g]; exact Int32.le_refl _) r1, fun j h1 h2 => by omega, fun e he => r2 e (by omega) he, r3, r4, r5, r6, fun a i z => r7 a i (by omega)⟩
    · have cc : (nI c).toNatClampNeg = c := nI_clamp (by omega)
      have oc : ¬ oob (nI c) 5 := nI_in (by omega) (by decide)
      have ix : (2 : Int32) + 3 * nI c = nI (2 + 3 * c) := by rw [n3, show (2 : Int32) = nI 2 from rfl, nI_add]
      have ix3 : (3 : Int32) + 3 * nI c = nI (3 + 3 * c) := by rw [n3, show (3 : Int32) = nI 3 from rfl, nI_add]
      have b0 := (hb (2 + 3 * c) (by omega)).2
      obtain ⟨M', r1, r2, r3, r4, r5, r6, r7, r8⟩ := xrd16 hn h5 h6 h16 hs w (c + 1) (sA (sA M 11 c (pIm bv c).1) 12 c (nI (pIm bv c).2)) (by omega) (by omega) q5 q12 hL (by rw [gA_sA_ne (by decide), gA_sA_ne (by decide)]; exact hb)
      have x54 : ∀ u, u = (pIm bv c).1 → fX6_readImage_54 n0 (xrC n0 w) (nI c) (nI c) u M = some M' := fun u e => by
        unfold fX6_readImage_54
        rw [ix3, e]
        refine eq_f oc (eq_e (v' := sA M 11 c (pIm bv c).1) (by rw [cc]) (eq_b (z := (nI (pIm bv c).2, sA M 11 c (pIm bv c).1)) ?_ (eq_f oc (eq_e (v' := sA (sA M 11 c (pIm bv c).1) 12 c (nI (pIm bv c).2)) (by rw [cc]) ?_))))
        · have := xpair (n0 := n0) (M := sA M 11 c (pIm bv c).1) (L := L) (bv := bv) hL h16 (by rw [gA_sA_ne (by decide)]; exact hb) (i := 3 + 3 * c) (by omega)
          rw [show 3 + 3 * c + 1 = 4 + 3 * c by omega] at this
          exact this
        · rw [show nI c + 1 = nI (c + 1) from nI_add c 1]
          exact r1
      refine ⟨M', eq_f (by rw [q5]; exact nI_ge (by omega) (by omega)) (eq_b (z := (nI (bv (2 + 3 * c)), M)) (by rw [ix]; exact xatb hL h16 hb (by omega)) ?_), fun j h1 h2 => ?_, r3, r4, r5, r6, r7, fun a i z => ?_⟩
      · by_cases z : bv (2 + 3 * c) = 255
        · exact eq_t (by rw [z]; rfl) (x54 _ (by unfold pIm; rw [if_pos z]))
        · exact eq_f (fun y => z ((nI_eq (b := 255) (by omega) (by decide)).mp y)) (x54 _ (by unfold pIm; rw [if_neg z]))
      · by_cases h : j = c
        · rw [h, r8 11 c (by omega), r8 12 c (by omega), gA_sA_ne (by decide), gA_sA, if_pos rfl, if_pos rfl, gA_sA, if_pos rfl, if_pos rfl]
          exact ⟨rfl, rfl⟩
        · exact r2 j (by omega) h2
      · rw [r8 a i (by omega), gA_sA]
        by_cases h : a = 12
        · rw [if_pos h, if_neg (by omega), gA_sA_ne (by decide), h]
        · rw [if_neg h, gA_sA]
          by_cases h' : a = 11
          · rw [if_pos h', if_neg (by omega), h']
          · rw [if_neg h']
end
section
/-! ON: the reference, and the call -/
theorem ycor {n0 b c L : Nat} {T : TP} {bv : Nat → Nat} {N : Mem} (hY : YT n0 b T N) (h16 : L ≤ 1600) (hb : Bv (gA N 1) bv L) (hs : L = 2 + 3 * T.nc + T.nd + 1) (hc : c < T.nc) : ((fX12_cornerOn n0 (nI c) (nI (2 + 3 * c)) N = some (1, sA (sA N 29 (5 + c) (pIm bv c).1) 30 (5 + c) (nI (pIm bv c).2)) ∧ okC bv T.nt c) ∨ (fX12_cornerOn n0 (nI c) (nI (2 + 3 * c)) N = some (0, sA (sA N 29 (5 + c) (pIm bv c).1) 30 (5 + c) (nI (pIm bv c).2)) ∧ ¬ okC bv T.nt c)) := by
  obtain ⟨o1, o2, o3, _⟩ := hY.2.1
  have c5 : (5 : Int32) + nI c = nI (5 + c) := by rw [show (5 : Int32) = nI 5 from rfl, nI_add]
  have cc : (nI (5 + c)).toNatClampNeg = 5 + c := nI_clamp (by omega)
  have oc : ¬ oob (nI (5 + c)) 110 := nI_in (by omega) (by decide)
  have ci : (nI (2 + 3 * c)).toNatClampNeg = 2 + 3 * c := nI_clamp (by omega)
  have i1 : nI (2 + 3 * c) + 1 = nI (3 + 3 * c) := by rw [show nI (2 + 3 * c) + 1 = nI (2 + 3 * c + 1) from nI_add _ 1]; congr 1; omega
  have i2 : nI (2 + 3 * c) + 2 = nI (4 + 3 * c) := by rw [show nI (2 + 3 * c) + 2 = nI (2 + 3 * c + 2) from nI_add _ 2]; congr 1; omega
  have ci1 : (nI (3 + 3 * c)).toNatClampNeg = 3 + 3 * c := nI_clamp (by omega)
  have ci2 : (nI (4 + 3 * c)).toNatClampNeg = 4 + 3 * c := nI_clamp (by omega)
  obtain ⟨e0, b0⟩ := hb (2 + 3 * c) (by omega)
  obtain ⟨e1, b1⟩ := hb (3 + 3 * c) (by omega)
  obtain ⟨e2, b2⟩ := hb (4 + 3 * c) (by omega)
  have hh : (pIm bv c).2 = 256 * bv (3 + 3 * c) + bv (4 + 3 * c) := rfl
  have hN2 : ∃ N2, N2 = sA (sA N 29 (5 + c) (pIm bv c).1) 30 (5 + c) (nI (pIm bv c).2) := ⟨_, rfl⟩
  obtain ⟨N2, eN⟩ := hN2
  rw [← eN]
  have a30 : gA N2 30 (5 + c) = nI (pIm bv c).2 := by rw [eN, gA_sA, if_pos rfl, if_pos rfl]
  have i13 : gI N2 13 = nI b := by rw [eN]; exact hY.2.2.2.1
  have a2 : gA N2 2 b = nI T.nt := by rw [eN, gA_sA_ne (by decide), gA_sA_ne (by decide)]; exact hY.2.2.2.2.1
  have x73 : ((pIm bv c).2 ≤ 999 ∧ fX12_cornerOn_73 n0 (nI c) N2 = some (1, N2)) ∨ (¬ (pIm bv c).2 ≤ 999 ∧ fX12_cornerOn_73 n0 (nI c) N2 = some (0, N2)) := by
    unfold fX12_cornerOn_73
    simp only [c5, cc, a30]
    by_cases z : (pIm bv c).2 ≤ 999
    · exact Or.inl ⟨z, eq_f oc (eq_f (fun y => by have := (nI_ltI (a := 999) (by decide) (by omega)).mp y; omega) rfl)⟩
    · exact Or.inr ⟨z, eq_f oc (eq_t (nI_lt (a := 999) (by omega) (by omega)) rfl)⟩
  have x22 : ∀ r, (if (pIm bv c).1 = (-1 : Int32) then fX12_cornerOn_73 n0 (nI c) N2 else (fX12_isThing n0 (pIm bv c).1 N2).bind fun z67 => if z67.1 = 0 then some ((0 : Int32), z67.2) else fX12_cornerOn_73 n0 (nI c) z67.2) = r → fX12_cornerOn_22 n0 (nI c) (nI (2 + 3 * c)) (pIm bv c).1 N = r := fun r hr => by
    unfold fX12_cornerOn_22
    simp only [c5, cc, i1, i2, ci1, ci2]
    refine eq_f oc (eq_n (eq_f (nI_in (by omega) (by decide)) (eq_f (nI_in (by omega) (by decide)) (eq_f oc (eq_e (v' := N2) ?_ hr)))))
    rw [gA_sA_ne (by decide), e1, e2, pair8 b1 b2, eN, hh]
  have x0 : ∀ r, fX12_cornerOn_22 n0 (nI c) (nI (2 + 3 * c)) (pIm bv c).1 N = r → fX12_cornerOn n0 (nI c) (nI (2 + 3 * c)) N = r := fun r hr => by
    unfold fX12_cornerOn
    simp only [ci, e0]
    by_cases z : bv (2 + 3 * c) = 255
    · have : (pIm bv c).1 = -1 := by unfold pIm; exact if_pos z
      rw [this] at hr
      exact eq_f (nI_in (by omega) (by decide)) (eq_t (by rw [z]; rfl) hr)
    · have : (pIm bv c).1 = nI (bv (2 + 3 * c)) := by unfold pIm; exact if_neg z
      rw [this] at hr
      exact eq_f (nI_in (by omega) (by decide)) (eq_f (fun y => z ((nI_eq (b := 255) (by omega) (by decide)).mp y)) (eq_f (nI_in (by omega) (by decide)) hr))
  by_cases z : bv (2 + 3 * c) = 255
  · have p1 : (pIm bv c).1 = -1 := by unfold pIm; exact if_pos z
    rcases x73 with ⟨y, e⟩ | ⟨y, e⟩
    · exact Or.inl ⟨x0 _ (x22 _ (eq_t p1 e)), Or.inl z, y⟩
    · exact Or.inr ⟨x0 _ (x22 _ (eq_t p1 e)), fun w => y w.2⟩
  · have p1 : (pIm bv c).1 = nI (bv (2 + 3 * c)) := by unfold pIm; exact if_neg z
    have p2 : ¬ (pIm bv c).1 = -1 := by rw [p1]; exact nI_m1 (by omega)
    by_cases y : bv (2 + 3 * c) < T.nt
    · have e3 : fX12_isThing n0 (pIm bv c).1 N2 = some (1, N2) := by rw [p1]; exact yTht i13 hY.2.2.1 a2 o1 y
      rcases x73 with ⟨w, e⟩ | ⟨w, e⟩
      · exact Or.inl ⟨x0 _ (x22 _ (eq_f p2 (eq_b e3 (eq_f (show ¬ (1 : Int32) = 0 by decide) e)))), Or.inr y, w⟩
      · exact Or.inr ⟨x0 _ (x22 _ (eq_f p2 (eq_b e3 (eq_f (show ¬ (1 : Int32) = 0 by decide) e)))), fun k => w k.2⟩
    · have e3 : fX12_isThing n0 (pIm bv c).1 N2 = some (0, N2) := by rw [p1]; exact yThf i13 hY.2.2.1 a2 (Or.inr (nI_le (by omega) (by omega)))
      exact Or.inr ⟨x0 _ (x22 _ (eq_f p2 (eq_b e3 (eq_t rfl rfl)))), fun k => k.1.elim z y⟩
abbrev yoC (n0 : Nat) : Nat → Int32 → Int32 → Mem → Option (Int32 × Mem) := loopN (bX12_comesOn_151 n0) (fun _ _ _ => none)
theorem yon151 {n0 b L : Nat} {T : TP} {bv : Nat → Nat} {x2 : Int32} (h16 : L ≤ 1600) (hs : L = 2 + 3 * T.nc + T.nd + 1) : ∀ w c N, c ≤ T.nc → T.nc < w + c → YT n0 b T N → Bv (gA N 1) bv L → ∃ N', YF (tP 1) N N' ∧ gA N' 28 = gA N 28 ∧ (∀ j, j < c → gA N' 29 (5 + j) = gA N 29 (5 + j) ∧ gA N' 30 (5 + j) = gA N 30 (5 + j)) ∧ ((yoC n0 w x2 (nI c) N = fX12_comesOn_191 n0 x2 0 N' ∧ (∀ j, c ≤ j → j < T.nc → okC bv T.nt j ∧ gA N' 29 (5 + j) = (pIm bv j).1 ∧ gA N' 30 (5 + j) = nI (pIm bv j).2)) ∨ (yoC n0 w x2 (nI c) N = some (0, N') ∧ ¬ ∀ j, c ≤ j → j < T.nc → okC bv T.nt j))
  | 0, c, N, hc, hw, _, _ => by omega
  | w + 1, c, N, hc, hw, hY, hb => by
    show ∃ N', YF (tP 1) N N' ∧ gA N' 28 = gA N 28 ∧ _ ∧ ((bX12_comesOn_151 n0 (yoC n0 w) x2 (nI c) N = _ ∧ _) ∨ (bX12_comesOn_151 n0 (yoC n0 w) x2 (nI c) N = _ ∧ _))
    obtain ⟨o1, o2, o3, _⟩ := hY.2.1
    have hbb := hY.2.2.1
    have o13 : ¬ oob (gI N 13) 2 := by rw [hY.2.2.2.1]; exact nI_in (by omega) (by decide)
    have y5 : gA N 5 (gI N 13).toNatClampNeg = nI T.nc := by rw [hY.2.2.2.1, nI_clamp (by omega)]; exact hY.2.2.2.2.2.1
    unfold bX12_comesOn_151
    by_cases g : c = T.nc
    · exact ⟨N, YF.r, rfl, fun _ _ => ⟨rfl, rfl⟩, Or.inl ⟨eq_f o13 (eq_t (by rw [y5, g]; exact Int32.le_refl _) rfl), fun j h1 h2 => by omega⟩⟩
    · have hcn : c < T.nc := by omega
      have ix : (2 : Int32) + 3 * nI c = nI (2 + 3 * c) := by rw [n3, show (2 : Int32) = nI 2 from rfl, nI_add]
      have st : ¬ gA N 5 (gI N 13).toNatClampNeg ≤ nI c := by rw [y5]; exact nI_ge hcn (by omega)
      have hN2 : ∃ N2, N2 = sA (sA N 29 (5 + c) (pIm bv c).1) 30 (5 + c) (nI (pIm bv c).2) := ⟨_, rfl⟩
      obtain ⟨N2, eN⟩ := hN2
      have f1 : YF (tP 1) N N2 := by rw [eN]; exact (YF.r.a (by unfold tP; omega)).a (by unfold tP; omega)
      have a28 : gA N2 28 = gA N 28 := by rw [eN, gA_sA_ne (by decide), gA_sA_ne (by decide)]
      have a29 : ∀ j, ¬ j = c → gA N2 29 (5 + j) = gA N 29 (5 + j) ∧ gA N2 30 (5 + j) = gA N 30 (5 + j) := fun j z => by
        rw [eN]
        exact ⟨by rw [gA_sA_ne (by decide), gA_sA, if_pos rfl, if_neg (by omega)], by rw [gA_sA, if_pos rfl, if_neg (by omega), gA_sA_ne (by decide)]⟩
      have b29 : gA N2 29 (5 + c) = (pIm bv c).1 ∧ gA N2 30 (5 + c) = nI (pIm bv c).2 := by
        rw [eN]
        exact ⟨by rw [gA_sA_ne (by decide), gA_sA, if_pos rfl, if_pos rfl], by rw [gA_sA, if_pos rfl, if_pos rfl]⟩
      rw [ix]
      have hcr := ycor (n0 := n0) hY h16 hb hs hcn
      rw [← eN] at hcr
      rcases hcr with ⟨e, k⟩ | ⟨e, k⟩
      · obtain ⟨N', r0, r1, r2, r3⟩ := yon151 (n0 := n0) (b := b) (x2 := x2) h16 hs w (c + 1) N2 (by omega) (by omega) (hY.yf f1 tP28) (by rw [eN, gA_sA_ne (by decide), gA_sA_ne (by decide)]; exact hb)
        refine ⟨N', f1.tr r0, r1.trans a28, fun j hj => ⟨((r2 j (by omega)).1).trans (a29 j (by omega)).1, ((r2 j (by omega)).2).trans (a29 j (by omega)).2⟩, ?_⟩
        have k1 : nI c + 1 = nI (c + 1) := nI_add c 1
        rcases r3 with ⟨s1, s2⟩ | ⟨s1, s2⟩
        · refine Or.inl ⟨eq_f o13 (eq_f st (eq_b e (eq_f (show ¬ (1 : Int32) = 0 by decide) (by rw [k1]; exact s1)))), fun j h1 h2 => ?_⟩
          by_cases z : j = c
          · rw [z]
            exact ⟨k, ((r2 c (by omega)).1).trans b29.1, ((r2 c (by omega)).2).trans b29.2⟩
          · exact s2 j (by omega) h2
        · exact Or.inr ⟨eq_f o13 (eq_f st (eq_b e (eq_f (show ¬ (1 : Int32) = 0 by decide) (by rw [k1]; exact s1)))), fun z => s2 (fun j h1 h2 => z j (by omega) h2)⟩
      · exact ⟨N2, f1, a28, fun j hj => a29 j (by omega), Or.inr ⟨eq_f o13 (eq_f st (eq_b e (eq_t rfl rfl))), fun z => k (z c (by omega) hcn)⟩⟩
abbrev yoD (n0 : Nat) : Nat → Int32 → Int32 → Mem → Option (Int32 × Mem) := loopN (bX12_comesOn_191 n0) (fun _ _ _ => none)
theorem yon191 {n0 b L : Nat} {T : TP} {bv : Nat → Nat} (h16 : L ≤ 1600) (hs : L = 2 + 3 * T.nc + T.nd + 1) : ∀ w d N, d ≤ T.nd → T.nd < w + d → YT n0 b T N → Bv (gA N 1) bv L → (∀ j, j < d → bv (2 + 3 * T.nc + j) ≤ 1) → gA N 31 1 = nI (Dn (fun j => bv (2 + 3 * T.nc + j)) d) → ∃ N', YF (fun a i => a = 31 ∧ i = 1) N N' ∧ ((yoD n0 w (nI (2 + 3 * T.nc)) (nI d) N = some (1, N') ∧ (∀ j, j < T.nd → bv (2 + 3 * T.nc + j) ≤ 1) ∧ gA N' 31 1 = nI (Dn (fun j => bv (2 + 3 * T.nc + j)) T.nd)) ∨ (yoD n0 w (nI (2 + 3 * T.nc)) (nI d) N = some (0, N') ∧ ¬ ∀ j, j < T.nd → bv (2 + 3 * T.nc + j) ≤ 1))
  | 0, d, N, hd, hw, _, _, _, _ => by omega
  | w + 1, d, N, hd, hw, hY, hb, hv, hD => by
    show ∃ N', YF (fun a i => a = 31 ∧ i = 1) N N' ∧ ((bX12_comesOn_191 n0 (yoD n0 w) (nI (2 + 3 * T.nc)) (nI d) N = _ ∧ _) ∨ (bX12_comesOn_191 n0 (yoD n0 w) (nI (2 + 3 * T.nc)) (nI d) N = _ ∧ _))
    obtain ⟨o1, o2, o3, _⟩ := hY.2.1
    have hbb := hY.2.2.1
    have o13 : ¬ oob (gI N 13) 2 := by rw [hY.2.2.2.1]; exact nI_in (by omega) (by decide)
    have y10 : gA N 10 (gI N 13).toNatClampNeg = nI T.nd := by rw [hY.2.2.2.1, nI_clamp (by omega)]; exact hY.2.2.2.2.2.2.1
    unfold bX12_comesOn_191
    by_cases g : d = T.nd
    · subst g
      exact ⟨N, YF.r, Or.inl ⟨eq_f o13 (eq_t (by rw [y10]; exact Int32.le_refl _) rfl), hv, hD⟩⟩
    · have hdn : d < T.nd := by omega
      have ci : (nI (2 + 3 * T.nc + d)).toNatClampNeg = 2 + 3 * T.nc + d := nI_clamp (by omega)
      obtain ⟨e0, b0⟩ := hb (2 + 3 * T.nc + d) (by omega)
      have st : ¬ gA N 10 (gI N 13).toNatClampNeg ≤ nI d := by rw [y10]; exact nI_ge hdn (by omega)
      have oi : ¬ oob (nI (2 + 3 * T.nc + d)) 1800 := nI_in (by omega) (by decide)
      rw [nI_add]
      by_cases z : bv (2 + 3 * T.nc + d) ≤ 1
      · have hN2 : ∃ N2, N2 = sA N 31 1 (nI (Dn (fun j => bv (2 + 3 * T.nc + j)) (d + 1))) := ⟨_, rfl⟩
        obtain ⟨N2, eN⟩ := hN2
        have f1 : YF (fun a i => a = 31 ∧ i = 1) N N2 := by rw [eN]; exact YF.r.a ⟨rfl, rfl⟩
        have dk := (Dn_ok (f := fun j => bv (2 + 3 * T.nc + j)) (n := d) (by omega) hv d (Nat.le_refl _)).1
        have p := p64 (n := d) (by omega)
        obtain ⟨N', r0, r1⟩ := yon191 (n0 := n0) (b := b) h16 hs w (d + 1) N2 (by omega) (by omega) (hY.yf f1 (fun a i y => by omega)) (by rw [eN, gA_sA_ne (by decide)]; exact hb) (fun j hj => by
          by_cases y : j = d
          · rw [y]; exact z
          · exact hv j (by omega)) (by rw [eN, gA_sA, if_pos rfl, if_pos rfl])
        have k1 : nI d + 1 = nI (d + 1) := nI_add d 1
        have gg : ∀ r, yoD n0 w (nI (2 + 3 * T.nc)) (nI (d + 1)) N2 = r → (if oob (gI N 13) 2 then none else if (gA N 10 (Int32.toNatClampNeg (gI N 13))) ≤ nI d then some ((1 : Int32), N) else if oob (nI (2 + 3 * T.nc + d)) 1800 then none else if (gA N 1 (Int32.toNatClampNeg (nI (2 + 3 * T.nc + d)))) ≤ (1 : Int32) then if oob (1 : Int32) 22 then none else if oob (nI (2 + 3 * T.nc + d)) 1800 then none else if oob (1 : Int32) 22 then none else bnd (sA N 31 (Int32.toNatClampNeg (1 : Int32)) ((gA N 31 (Int32.toNatClampNeg (1 : Int32))) ||| ((gA N 1 (Int32.toNatClampNeg (nI (2 + 3 * T.nc + d)))) <<< (nI d &&& 31)))) fun M240 => yoD n0 w (nI (2 + 3 * T.nc)) (nI d + (1 : Int32)) M240 else some ((0 : Int32), N)) = r := fun r hr => by
          refine eq_f o13 (eq_f st (eq_f oi (eq_t (by rw [ci, e0]; exact nI_le (b := 1) z (by decide)) (eq_f (by decide) (eq_f oi (eq_f (by decide) (eq_e (v' := N2) ?_ ?_)))))))
          · show sA N 31 1 (gA N 31 1 ||| _) = _
            rw [ci, e0, hD, bt_on1 d (by omega) _ (by omega) dk _ (by omega), eN]
            rfl
          · rw [k1]; exact hr
        refine ⟨N', f1.tr r0, ?_⟩
        rcases r1 with ⟨s1, s2⟩ | ⟨s1, s2⟩
        · exact Or.inl ⟨gg _ s1, s2⟩
        · exact Or.inr ⟨gg _ s1, s2⟩
      · exact ⟨N, YF.r, Or.inr ⟨eq_f o13 (eq_f st (eq_f oi (eq_f (by rw [ci, e0]; exact nI_ge (a := 1) (by omega) (by omega)) rfl))), fun y => z (y d hdn)⟩⟩
abbrev yoS (n0 : Nat) : Nat → Int32 → Int32 → Int32 → Int32 → Mem → Option (Int32 × Mem) := loopN (bX12_comesOn_62 n0) (fun _ _ _ _ _ => none)
theorem yon62 {n0 L : Nat} {bv : Nat → Nat} {x2 : Int32} {N : Mem} (h16 : L ≤ 1600) (hL : 1 ≤ L) (hb : Bv (gA N 1) bv L) : ∀ w k, k ≤ L - 1 → L - 1 < w + k → yoS n0 w (nI L) x2 (nI (ckN bv k)) (nI k) N = yoS n0 1 (nI L) x2 (nI (ckN bv (L - 1))) (nI (L - 1)) N
  | 0, k, hk, hw => by omega
  | w + 1, k, hk, hw => by
    have l1 : nI L - 1 = nI (L - 1) := by
      rw [show L = (L - 1) + 1 by omega]
      exact nIs _
    by_cases g : k = L - 1
    · rw [g]
      show bX12_comesOn_62 n0 (yoS n0 w) (nI L) x2 (nI (ckN bv (L - 1))) (nI (L - 1)) N = bX12_comesOn_62 n0 (yoS n0 0) (nI L) x2 (nI (ckN bv (L - 1))) (nI (L - 1)) N
      unfold bX12_comesOn_62
      rw [l1, if_pos (Int32.le_refl _), if_pos (Int32.le_refl _)]
    · show bX12_comesOn_62 n0 (yoS n0 w) (nI L) x2 (nI (ckN bv k)) (nI k) N = _
      have ck : (nI k).toNatClampNeg = k := nI_clamp (by omega)
      obtain ⟨e0, b0⟩ := hb k (by omega)
      have ih := yon62 (n0 := n0) (x2 := x2) h16 hL hb w (k + 1) (by omega) (by omega)
      rw [← ih]
      unfold bX12_comesOn_62
      refine eq_f (by rw [l1]; exact nI_ge (by omega) (by omega)) (eq_f (nI_in (by omega) (by decide)) (eq_f (by decide) (eq_e (v' := nI (ckN bv (k + 1))) (by rw [ck, e0, ck1 (by omega)]) ?_)))
      rw [show nI k + 1 = nI (k + 1) from nI_add k 1]
theorem ycomes {n0 b m L : Nat} {T : TP} {pm : Nat → Int32 × Nat} {s : Nat × List (Nat × Nat)} {bv : Nat → Nat} {N : Mem} (hn : 1700 ≤ n0) (hY : YT n0 b T N) (hLy : LyD 0 T.nc m pm s N) (hs : sOk T.nd s) (h16 : L ≤ 1600) (hb : Bv (gA N 1) bv L) :
    (∃ N', fX12_comesOn n0 (nI L) N = some (1, N') ∧ isIm T bv L ∧ LyD 1 T.nc (256 * bv 0 + bv 1) (pIm bv) (Dn (fun j => bv (2 + 3 * T.nc + j)) T.nd, []) N' ∧ YF (lP 1) N N') ∨
    (∃ N', fX12_comesOn n0 (nI L) N = some (0, N') ∧ ¬ isIm T bv L ∧ YF (lP 1) N N') := by
  obtain ⟨o1, o2, o3, _⟩ := hY.2.1
  have hbb := hY.2.2.1
  have hl := hs.l
  have o13 : ¬ oob (gI N 13) 2 := by rw [hY.2.2.2.1]; exact nI_in (by omega) (by decide)
  have y5 : gA N 5 (gI N 13).toNatClampNeg = nI T.nc := by rw [hY.2.2.2.1, nI_clamp (by omega)]; exact hY.2.2.2.2.2.1
  have y10 : gA N 10 (gI N 13).toNatClampNeg = nI T.nd := by rw [hY.2.2.2.1, nI_clamp (by omega)]; exact hY.2.2.2.2.2.2.1
  have ix : (2 : Int32) + 3 * gA N 5 (gI N 13).toNatClampNeg = nI (2 + 3 * T.nc) := by rw [y5, n3, show (2 : Int32) = nI 2 from rfl, nI_add]
  have ez : nI (2 + 3 * T.nc) + gA N 10 (gI N 13).toNatClampNeg + 1 = nI (2 + 3 * T.nc + T.nd + 1) := by rw [y10, nI_add]; exact nI_add _ 1
  by_cases g1 : L = 2 + 3 * T.nc + T.nd + 1
  · obtain ⟨e0, b0⟩ := hb 0 (by omega)
    obtain ⟨e1, b1⟩ := hb 1 (by omega)
    have hp : (gA N 1 (Int32.toNatClampNeg 0) <<< ((8 : Int32) &&& 31)) ||| gA N 1 (Int32.toNatClampNeg 1) = nI (256 * bv 0 + bv 1) := by
      show (gA N 1 0 <<< _) ||| gA N 1 1 = _
      rw [e0, e1, pair8 b0 b1]
    have l1 : nI L - 1 = nI (L - 1) := by
      rw [show L = (L - 1) + 1 by omega]
      exact nIs _
    by_cases g2 : 256 * bv 0 + bv 1 ≤ 9999
    · have st : ∀ r, yoS n0 1 (nI L) (nI (2 + 3 * T.nc)) (nI (ckN bv (L - 1))) (nI (L - 1)) N = r → fX12_comesOn n0 (nI L) N = r := fun r hr => by
        unfold fX12_comesOn
        refine eq_f o13 (eq_e ix (eq_f o13 (eq_t (by rw [ez, g1]) (eq_f (by decide) (eq_f (by decide) (eq_t (by rw [hp]; exact nI_le (b := 9999) g2 (by decide)) ?_))))))
        exact (yon62 (n0 := n0) (x2 := nI (2 + 3 * T.nc)) h16 (by omega) hb n0 0 (by omega) (by omega)).trans hr
      obtain ⟨e3, b3⟩ := hb (L - 1) (by omega)
      have c3 := ckN_lt bv (L - 1)
      have cl : (nI (L - 1)).toNatClampNeg = L - 1 := nI_clamp (by omega)
      have ol : ¬ oob (nI L - 1) 1800 := by rw [l1]; exact nI_in (by omega) (by decide)
      by_cases g3 : bv (L - 1) = ckN bv (L - 1)
      · obtain ⟨N1, k1, k2, k3, k4, k5, k6, k7⟩ := ycopy (n0 := n0) (v := 1) (u := 0) (kn := s.2.length) (M := N) hn (by decide) (by decide) (by decide) (by omega) hLy.2.2.1
        have hN2 : ∃ N2, N2 = sA (sA (sA N1 28 1 (nI (256 * bv 0 + bv 1))) 31 1 0) 32 1 0 := ⟨_, rfl⟩
        obtain ⟨N2, eN⟩ := hN2
        have f2 : YF (lP 1) N N2 := by
          rw [eN]
          exact ((k7.a (by unfold lP tP; omega)).a (by unfold lP dP; omega)).a (by unfold lP dP; omega)
        have t1 : gA N1 1 = gA N 1 := k7.gA (fun i y => by unfold lP tP dP at y; omega) (by decide)
        have t2 : gA N2 1 = gA N 1 := f2.gA (fun i y => by unfold lP tP dP at y; omega) (by decide)
        have hb2 : Bv (gA N2 1) bv L := by rw [t2]; exact hb
        have s62 : yoS n0 1 (nI L) (nI (2 + 3 * T.nc)) (nI (ckN bv (L - 1))) (nI (L - 1)) N = fX12_comesOn_151 n0 (nI (2 + 3 * T.nc)) 0 N2 := by
          show bX12_comesOn_62 n0 (yoS n0 0) (nI L) (nI (2 + 3 * T.nc)) (nI (ckN bv (L - 1))) (nI (L - 1)) N = _
          unfold bX12_comesOn_62
          refine eq_t (by rw [l1]; exact Int32.le_refl _) (eq_f ol (eq_t (by rw [l1, cl, e3, g3]) (eq_b k1 (eq_f (by decide) (eq_f (by decide) (eq_f (by decide) (eq_e (v' := sA N1 28 1 (nI (256 * bv 0 + bv 1))) ?_ (eq_f (by decide) (eq_n (eq_f (by decide) (eq_e (v' := N2) (by rw [eN]; rfl) rfl)))))))))))
          rw [t1, hp]
          rfl
        obtain ⟨N3, q0, q1, _, q3⟩ := yon151 (n0 := n0) (b := b) (x2 := nI (2 + 3 * T.nc)) h16 g1 n0 0 N2 (by omega) (by omega) (hY.yf f2 lP28) hb2
        have f3 : YF (lP 1) N N3 := f2.tr (q0.wk (fun a i y => Or.inl y))
        rcases q3 with ⟨s1, s2⟩ | ⟨s1, s2⟩
        · have a31 : gA N3 31 1 = nI (Dn (fun j => bv (2 + 3 * T.nc + j)) 0) := by
            rw [q0.2.2.2.1 31 1 (by decide) (fun y => by unfold tP at y; omega), eN, gA_sA_ne (by decide), gA_sA, if_pos rfl, if_pos rfl]
            rfl
          have a32 : gA N3 32 1 = 0 := by
            rw [q0.2.2.2.1 32 1 (by decide) (fun y => by unfold tP at y; omega), eN, gA_sA, if_pos rfl, if_pos rfl]
          have t3 : gA N3 1 = gA N 1 := f3.gA (fun i y => by unfold lP tP dP at y; omega) (by decide)
          obtain ⟨N4, u0, u1⟩ := yon191 (n0 := n0) (b := b) (T := T) (bv := bv) h16 g1 n0 0 N3 (by omega) (by omega) (hY.yf f3 lP28) (by rw [t3]; exact hb) (fun j hj => by omega) a31
          have f4 : YF (lP 1) N N4 := f3.tr (u0.wk (fun a i y => by unfold lP dP; omega))
          rcases u1 with ⟨v1, v2, v3⟩ | ⟨v1, v2⟩
          · refine Or.inl ⟨N4, st _ (s62.trans (s1.trans v1)), ⟨g1, g2, fun j hj => (s2 j (by omega) hj).1, v2, g3⟩, ⟨⟨?_, fun c hc => ?_⟩, v3, ?_, fun i p hp => by simp at hp⟩, f4⟩
            · rw [u0.2.2.2.1 28 1 (by decide) (fun y => by omega), q1, eN, gA_sA_ne (by decide), gA_sA_ne (by decide), gA_sA, if_pos rfl, if_pos rfl]
            · rw [u0.2.2.2.1 29 _ (by decide) (fun y => by omega), u0.2.2.2.1 30 _ (by decide) (fun y => by omega)]
              exact (s2 c (by omega) hc).2
            · rw [u0.2.2.2.1 32 1 (by decide) (fun y => by omega), a32]
              rfl
          · exact Or.inr ⟨N4, st _ (s62.trans (s1.trans v1)), fun y => v2 y.2.2.2.1, f4⟩
        · exact Or.inr ⟨N3, st _ (s62.trans s1), fun y => s2 (fun j _ hj => y.2.2.1 j hj), f3⟩
      · refine Or.inr ⟨N, st _ ?_, fun y => g3 y.2.2.2.2, YF.r⟩
        show bX12_comesOn_62 n0 (yoS n0 0) (nI L) (nI (2 + 3 * T.nc)) (nI (ckN bv (L - 1))) (nI (L - 1)) N = _
        unfold bX12_comesOn_62
        exact eq_t (by rw [l1]; exact Int32.le_refl _) (eq_f ol (eq_f (by rw [l1, cl, e3]; exact fun y => g3 ((nI_eq (by omega) (by omega)).mp y)) rfl))
    · refine Or.inr ⟨N, ?_, fun y => g2 y.2.1, YF.r⟩
      unfold fX12_comesOn
      exact eq_f o13 (eq_e ix (eq_f o13 (eq_t (by rw [ez, g1]) (eq_f (by decide) (eq_f (by decide) (eq_f (by rw [hp]; exact nI_ge (a := 9999) (by omega) (by omega)) rfl))))))
  · refine Or.inr ⟨N, ?_, fun y => g1 y.1, YF.r⟩
    unfold fX12_comesOn
    exact eq_f o13 (eq_e ix (eq_f o13 (eq_f (by rw [ez]; exact fun y => g1 ((nI_eq (by omega) (by omega)).mp y)) rfl)))
theorem cOn {n0 : Nat} {MX MY : Mem} (hn : 1700 ≤ n0) (h : R n0 MX MY) : Cal n0 (fX11_on n0 MX) (fX12_on n0 MY) := by
  have hg := h.gone
  obtain ⟨q, b, T, nr, C, m, pm, s, h⟩ := h
  obtain ⟨h1, h2, h3, h4, h5, h6, h7⟩ := id h
  obtain ⟨o1, o2, o3, _⟩ := h1.2.2.2.1.2.1
  have hl := h2.2.2.l
  obtain ⟨L, l1, l2, l3, l4, l5⟩ := h7.2.2.2.2.1
  have hbx : Bv (gA MX 6) (fun i => (gA MX 6 i).toNatClampNeg) L := byt_bv l5
  have hbv : ∃ bv, bv = fun i => (gA MX 6 i).toNatClampNeg := ⟨_, rfl⟩
  obtain ⟨bv, ebv⟩ := hbv
  rw [← ebv] at hbx
  have hby : Bv (gA (sI MY 1 0) 1) bv L := by
    show Bv (gA MY 1) bv L
    rw [l4]
    exact hbx
  have hY1 : YT n0 b T (sI MY 1 0) := h1.2.2.2.2.1.tw yTw.r (gI_ne (by decide))
  rcases ycomes (n0 := n0) (b := b) (m := m) (pm := pm) (s := s) hn hY1 h4 h2.2.2 l1 hby with ⟨N1, k1, k2, k3, k4⟩ | ⟨N1, k1, k2, k4⟩
  · rcases xisIm (n0 := n0) hn h1.2.2.2.1 h3.2.1 l2 l1 hbx with ⟨x1, _⟩ | ⟨_, x2⟩
    · obtain ⟨i1, i2, i3, i4, i5⟩ := k2
      -- the class
      have hX1 : ∃ X1, X1 = sI (sI MX 1281 (nI (256 * bv 0 + bv 1))) 1285 0 := ⟨_, rfl⟩
      obtain ⟨X1, eX⟩ := hX1
      have xq : gR X1 1280 = q := by rw [eX]; exact h3.2.1
      obtain ⟨X2, a1, a2, a3, a4, a5, a6, a7, a8⟩ := xrd16 (n0 := n0) (nc := T.nc) (nd := T.nd) (bv := bv) hn o2 o3 l1 i1 n0 0 X1 (by omega) (by omega) (by rw [xq, eX, gI_ne (by rcases h1.1 with z | z <;> omega), gI_ne (by rcases h1.1 with z | z <;> omega)]; exact h1.2.2.2.1.2.2.1) (by rw [xq, eX, gI_ne (by rcases h1.1 with z | z <;> omega), gI_ne (by rcases h1.1 with z | z <;> omega)]; exact h1.2.2.2.1.2.2.2.1) (by rw [eX, gI_ne (by decide), gI_ne (by decide)]; exact l2) (by rw [eX]; exact hbx)
      have cx : fX11_on n0 MX = some (1, sI (sI X2 2050 0) 641 0) := by
        unfold fX11_on
        refine eq_b x1 (eq_f (show ¬ (1 : Int32) = 0 by decide) (eq_b (z := X2) ?_ ?_))
        · unfold fX6_readImage
          refine eq_b (z := (nI (256 * bv 0 + bv 1), MX)) (xpair (n0 := n0) l2 l1 hbx (i := 0) (by omega)) (eq_n (eq_e (v' := X1) (by rw [eX]) a1))
        · unfold fX11_on_44
          exact eq_n (eq_t (Or.inr rfl) rfl)
      -- the reference
      obtain ⟨N2, c1, c2, c3⟩ := ycopyD (n0 := n0) (v := 0) (u := 1) (M := N1) hn (by decide) (by decide) (by decide) o2 (Nat.zero_le _) k3
      have cy : fX12_on n0 MY = some (1, sI N2 54 0) := by
        unfold fX12_on
        exact eq_e l3 (eq_n (eq_b k1 (eq_f (show ¬ (1 : Int32) = 0 by decide) (eq_b c1 rfl))))
      have dk := Dn_ok (f := fun j => bv (2 + 3 * T.nc + j)) (n := T.nd) o3 i4 T.nd (Nat.le_refl _)
      have xI : ∀ k, ¬ (k = 641 ∨ k = 2050 ∨ k = 1281 ∨ k = 1285) → gI (sI (sI X2 2050 0) 641 0) k = gI MX k := fun k z => by rw [gI_ne (by omega), gI_ne (by omega), a7, eX, gI_ne (by omega), gI_ne (by omega)]
      have xA : ∀ a, ¬ (a = 11 ∨ a = 12 ∨ a = 13) → gA X2 a = gA MX a := fun a z => by
        funext i
        rw [a8 a i (by omega), eX]
        rfl
      have xR : gR X2 = gR MX := by rw [a4, eX]; rfl
      have yI : ∀ k, ¬ (k = 1 ∨ k = 54) → gI (sI N2 54 0) k = gI MY k := fun k z => by rw [gI_ne (by omega), c3.2.2.1, k4.2.2.1, gI_ne (by omega)]
      have yA : ∀ a i, ¬ a = 35 → ¬ lP 0 a i → ¬ lP 1 a i → gA N2 a i = gA MY a i := fun a i z0 z1 z2 => by rw [c3.2.2.2.1 a i z0 z1, k4.2.2.2.1 a i z0 z2]; rfl
      have yA2 : ∀ a, ¬ (28 ≤ a ∧ a ≤ 33) → ¬ a = 35 → gA N2 a = gA MY a := fun a z1 z2 => by
        funext i
        exact yA a i z2 (fun z => by unfold lP tP dP at z; omega) (fun z => by unfold lP tP dP at z; omega)
      refine ⟨1, _, _, cx, cy, q, b, T, nr, C, 256 * bv 0 + bv 1, pIm bv, (Dn (fun j => bv (2 + 3 * T.nc + j)) T.nd, []), h1.cgs xR (fun k z => xI k (by omega)) (fun a z1 z2 => xA a (by omega)) (yI 13 (by decide)) (fun a z1 z2 => yA2 a (by omega) (by omega)) (fun a z1 z2 => by show gB N2 a = _; rw [c3.2.2.2.2 a (by omega), k4.2.2.2.2 a (by omega)]; rfl), ⟨i2, fun c hc => ?_, dk.1, Nat.zero_le _⟩, ?_, c2, ?_, h6.cg (xI 2688 (by decide)) (yI 61 (by decide)) (fun a z1 z2 => xA a (by omega)) (fun a z1 z2 => yA2 a (by omega) (by omega)), ?_⟩
      · have k := i3 c hc
        refine ⟨?_, k.2⟩
        show tOk T.nt (if bv (2 + 3 * c) = 255 then -1 else nI (bv (2 + 3 * c)))
        by_cases z : bv (2 + 3 * c) = 255
        · rw [if_pos z]; exact Or.inl rfl
        · rw [if_neg z]; exact Or.inr ⟨_, k.1.resolve_left z, rfl⟩
      · refine ⟨by show gR X2 896 = q; rw [xR]; exact h3.1, by show gR X2 1280 = q; rw [xR]; exact h3.2.1, ?_, fun c hc => a2 c (by omega) hc, fun d hd => ?_, ?_, fun i p hp => by simp at hp⟩
        · rw [gI_ne (by decide), gI_ne (by decide), a7, eX, gI_ne (by decide), gI_at]
        · show gA X2 13 d = _
          rw [a3 d hd, dk.2 d hd]
        · rw [gI_ne (by decide), gI_ne (by decide), a7, eX, gI_at]
          rfl
      · obtain ⟨x0, f, u, e, p1, p2, p3, p4, p5, p6, p7, p8, p9⟩ := h5
        refine ⟨(x0 + u) % 20, f, 0, e, by omega, p2, by omega, ?_, ?_, ?_, ?_, fun i hi => by omega, fun i j _ hj => by omega⟩
        · rw [xI 2049 (by decide), p4]; congr 1; omega
        · rw [gI_ne (by decide), gI_at]; rfl
        · rw [yI 53 (by decide)]; exact p6
        · rw [gI_at]; rfl
      · obtain ⟨p1, p2, p3, p4, p5, p6⟩ := h7
        refine ⟨p1.cg (xI 17 (by decide)) (by show gL N2 55 = _; rw [c3.2.1, k4.2.1]; rfl), p2.cg (xI 14 (by decide)) (yI 67 (by decide)) (xA 29 (by omega)) (yA2 43 (by omega) (by omega)), p3.cg (xA 30 (by omega)) (yA2 27 (by omega) (by omega)), p4.cg (xI 15 (by decide)) (xI 16 (by decide)) (yI 10 (by decide)) (yI 11 (by decide)), ⟨0, by omega, gI_at, ?_, ?_, fun i hi => by omega⟩, p6.cg (xA 4 (by omega))⟩
        · rw [gI_ne (by decide), c3.2.2.1, k4.2.2.1, gI_at]; rfl
        · show gA N2 1 = gA X2 6
          rw [yA2 1 (by omega) (by omega), xA 6 (by omega)]
          exact l4
    · exact absurd k2 x2
  · rcases xisIm (n0 := n0) hn h1.2.2.2.1 h3.2.1 l2 l1 hbx with ⟨_, x2⟩ | ⟨x1, _⟩
    · exact absurd x2 k2
    · have hR : R n0 (sI MX 641 0) N1 := by
        obtain ⟨q', b', T', nr', C', m', pm', s', hg⟩ := hg
        exact ⟨q', b', T', nr', C', m', pm', s', hg.scr XF.r (k4.wk (fun a i z => Or.inl z))⟩
      refine Cal.ref (k := 5) (r := 0) hR (by decide) ?_ ?_
      · unfold fX11_on
        refine eq_b x1 (eq_t rfl (eq_b (xref (k := 5) (by decide)) ?_))
        unfold fX11_on_44
        exact eq_n (eq_t (Or.inl rfl) rfl)
      · unfold fX12_on
        exact eq_e l3 (eq_n (eq_b k1 (eq_t rfl (eq_b (yref (k := 5) (by decide)) (eq_t (show (-1 : Int32) < 0 by decide) rfl)))))
end
section
/-! HOURS AHEAD ON BOTH SIDES: later, when, alike -/
theorem xfc {n0 q c m most q1 : Nat} {T : TP} {pm : Nat → Int32 × Nat} {s : Nat × List (Nat × Nat)} {M : Mem} (hn : 1700 ≤ n0) (hT : XT n0 q T M) (hS : SX q T.nc T.nd m pm s M) (hO : PsO T.nt T.nc pm) (hc : c < T.nc) (hm : m ≤ 9999) (h60 : most ≤ 60) (hq1 : q1 = 26 ∨ q1 = 27) : ∃ M', fX11_foresee n0 q1 (nI c) (nI most) M = some (nI (min most (9999 - m)), M') ∧ (∀ j, j ≤ min most (9999 - m) → gA M' q1 j = nI (hrs T.hF T.gF c m (pm c) j)) ∧ XF (fun a => a = q1) M M' := by
  have h5 := hT.2.1.2.1
  have f1 : XF (fun a => a = q1) M (hld M (nI c) (pm c).1 (nI (pm c).2) (nI m)) := hld_f
  obtain ⟨M2, e1, e2, e3⟩ := xfor (n0 := n0) (most := most) hn (hT.1.xf f1 (fun a z => by omega)) (hld_p hS.1) (by omega) (hO c hc) hm h60 hq1
  refine ⟨M2, ?_, e2, f1.tr e3⟩
  unfold fX11_foresee
  exact eq_b (xlook hS h5 hc) (eq_b e1 rfl)
theorem hrs_le {n0 b : Nat} {T : TP} {M : Mem} (hY : YT n0 b T M) {c m k : Nat} {p : Int32 × Nat} (hc : c < T.nc) (hp : pOk T.nt p) (hm : m + k ≤ 20000) : hrs T.hF T.gF c m p k ≤ 23 := by
  have h5 := hY.2.1.2.1
  have ok := tr_ok (gF := T.gF) (c := c) (m := m) hp k
  have hb := hY.2.2.1
  -- a layer that tells just that
  have := (hY.1 (sA (sA (sA M 28 0 (nI (m + k))) 29 (5 * 0 + c) (tr T.gF c m p k).1) 30 (5 * 0 + c) (nI (tr T.gF c m p k).2)) 0 c (tr T.gF c m p k).1 (tr T.gF c m p k).2 (m + k) (yTw.all (fun a _ z => by rw [gA_sA_ne (by omega), gA_sA_ne (by omega), gA_sA_ne (by omega)]) (fun _ _ _ => rfl)) ⟨hY.2.2.2.1, by decide, by rw [gA_sA_ne (by decide), gA_sA_ne (by decide), gA_sA, if_pos rfl, if_pos rfl], by rw [gA_sA_ne (by decide), gA_sA, if_pos rfl, if_pos rfl], by rw [gA_sA, if_pos rfl, if_pos rfl]⟩ ⟨by omega, ok.1, ok.2, hm⟩).1
  exact this
def trP (T : TP) (m : Nat) (pm : Nat → Int32 × Nat) (k : Nat) : Nat → Int32 × Nat := fun c => tr T.gF c m (pm c) k
theorem trP_ok {T : TP} {m : Nat} {pm : Nat → Int32 × Nat} (h : PsO T.nt T.nc pm) (k : Nat) : PsO T.nt T.nc (trP T m pm k) := fun c hc => tr_ok (h c hc) k
theorem trP_n {T : TP} {m : Nat} {pm : Nat → Int32 × Nat} (k : Nat) : nxP T (m + k) (trP T m pm k) = trP T m pm (k + 1) := rfl
theorem yahT {n0 m lo hi k : Nat} {M : Mem} (h28 : gA M 28 0 = nI m) (h1 : lo ≤ k) (h2 : k ≤ hi) (hhi : hi ≤ 100) (h3 : m + k ≤ 9999) : fX12_isAhead n0 (nI k) (nI lo) (nI hi) M = some (1, M) := by
  rcases yah (n0 := n0) (lo := lo) (hi := hi) (nI k) h28 (by omega) hhi (by omega) with ⟨_, _, _, _, _, e⟩ | ⟨z, _⟩
  · exact e
  · rcases z with z | z | ⟨j, j1, j2, j3, j4⟩
    · have := (nI_ltI (by omega) (by omega)).mp z; omega
    · have := (nI_ltI (by omega) (by omega)).mp z; omega
    · have := (nI_eq (by omega) (by omega)).mp j3; omega
theorem yahF {n0 m lo hi k : Nat} {M : Mem} (h28 : gA M 28 0 = nI m) (hm : m ≤ 9999) (hhi : hi ≤ 100) (hlo : lo ≤ hi) (hk : k ≤ 1000) (h3 : ¬ (k ≤ hi ∧ m + k ≤ 9999)) : fX12_isAhead n0 (nI k) (nI lo) (nI hi) M = some (0, M) := by
  rcases yah (n0 := n0) (lo := lo) (hi := hi) (nI k) h28 hm hhi hlo with ⟨j, j1, j2, j3, j4, _⟩ | ⟨_, e⟩
  · have := (nI_eq (by omega) (by omega)).mp j4; omega
  · exact e
theorem m28f {P : Nat → Nat → Prop} {M M' : Mem} {x : Int32} (h : gA M 28 0 = x) (f : YF P M M') (hP : ¬ P 28 0) : gA M' 28 0 = x := (f.2.2.2.1 28 0 (by decide) hP).trans h
theorem n28 : ¬ lP 1 28 0 := fun z => by unfold lP tP dP at z; omega
theorem lsc {M M' : Mem} (f : YF (lP 1) M M') : YF scP M M' := f.wk (fun _ _ z => Or.inl z)
-- later
abbrev ylL (n0 : Nat) : Nat → Int32 → Int32 → Int32 → Mem → Option (Int32 × Mem) := loopN (bX12_later_29 n0) (fun _ _ _ _ => none)
theorem ylat {n0 b c m n : Nat} {T : TP} {pm : Nat → Int32 × Nat} (hn : 1700 ≤ n0) (hc : c < T.nc) (hO : PsO T.nt T.nc pm) (hm : m + n ≤ 9999) : ∀ w k M (s : Nat × List (Nat × Nat)), k ≤ n → n < w + k → YT n0 b T M → LyD 1 T.nc (m + k) (trP T m pm k) s M → sOk T.nd s → ∃ M', ylL n0 w (nI c) (nI n) (nI k) M = some (nI (hrs T.hF T.gF c m (pm c) n), M') ∧ YF (lP 1) M M'
  | 0, k, M, s, hk, hw, _, _, _ => by omega
  | w + 1, k, M, s, hk, hw, hY, hL, hs => by
    show ∃ M', bX12_later_29 n0 (ylL n0 w) (nI c) (nI n) (nI k) M = _ ∧ _
    unfold bX12_later_29
    by_cases g : k = n
    · subst g
      obtain ⟨_, M1, e1, e2⟩ := yhr hY (v := 1) (by decide) hL.1 (trP_ok hO k) (by omega) hc
      exact ⟨M1, eq_t (Int32.le_refl _) (eq_b e1 rfl), e2.y⟩
    · obtain ⟨M1, e1, e2, e3, e4⟩ := ypassD (v := 1) hn hY (by decide) hL (trP_ok hO k) hs (by omega)
      obtain ⟨M', r1, r2⟩ := ylat hn hc hO hm w (k + 1) M1 _ (by omega) (by omega) (hY.yf e4 lP28) e2 e3
      refine ⟨M', eq_f (nI_ge (by omega) (by omega)) (eq_b e1 ?_), e4.tr r2⟩
      rw [show nI k + 1 = nI (k + 1) from nI_add k 1]
      exact r1
theorem cLater {n0 : Nat} {x y : Int32} {MX MY : Mem} (hn : 1700 ≤ n0) (h : R n0 MX MY) : Cal n0 (fX11_later n0 x y MX) (fX12_later n0 x y MY) := by
  have h0 := h
  obtain ⟨q, b, T, nr, C, m, pm, s, h⟩ := h
  obtain ⟨h1, h2, h3, h4, _⟩ := id h
  have hm := h2.1
  have hl := h2.2.2.l
  have y28 : gA MY 28 0 = nI m := h4.1.1
  unfold fX11_later fX12_later
  rcases isCo h1 x with ⟨c, hc, rfl, e1, e2⟩ | ⟨z, e1, e2⟩
  · rcases yah (n0 := n0) (lo := 0) (hi := 60) y y28 hm (by decide) (by decide) with ⟨k, _, k2, k3, rfl, e⟩ | ⟨z, e⟩
    · rcases ahead2 h k (by omega) with ⟨_, e3, _⟩ | ⟨g, _⟩
      · obtain ⟨X1, a1, a2, a3⟩ := xfc (n0 := n0) (q1 := 26) (most := k) hn h1.2.2.2.1 h3 h2.2.1 hc hm (by omega) (Or.inl rfl)
        obtain ⟨Y1, b1, b2, b3⟩ := ycopyD (n0 := n0) (v := 1) (u := 0) hn (by decide) (by decide) (by decide) h1.2.2.2.1.2.1.2.1 (by omega) h4
        obtain ⟨Y2, c1, c2⟩ := ylat (n0 := n0) (b := b) (m := m) hn hc h2.2.1 k3 n0 0 Y1 s (by omega) (by omega) (h1.2.2.2.2.1.yf b3 lP28) b2 h2.2.2
        refine Cal.scr h (eq_b e1 (eq_f (show ¬ (1 : Int32) = 0 by decide) (eq_f (nI_nn (by omega)) (eq_f (fun z => by have := (nI_ltI (a := 60) (by decide) (by omega)).mp z; omega) (eq_b e3 (eq_t rfl (eq_b a1 (eq_f (nI_in (by omega) (by decide)) ?_)))))))) (eq_b e2 (eq_f (show ¬ (1 : Int32) = 0 by decide) (eq_b e (eq_f (show ¬ (1 : Int32) = 0 by decide) (eq_b b1 c1))))) (a3.wk (fun a z => by unfold scA; omega)) (lsc (b3.tr c2))
        rw [nI_clamp (by omega), a2 k (by omega)]
      · exact absurd k3 g
    · refine Cal.same (r := -1) h0 ?_ (eq_b e2 (eq_f (show ¬ (1 : Int32) = 0 by decide) (eq_b e (eq_t rfl rfl))))
      refine eq_b e1 (eq_f (show ¬ (1 : Int32) = 0 by decide) ?_)
      rcases z with z | z | ⟨k, k1, k2, rfl, k3⟩
      · exact eq_t z rfl
      · by_cases g : y < 0
        · exact eq_t g rfl
        · exact eq_f g (eq_t z rfl)
      · rcases ahead2 h k (by omega) with ⟨g, _⟩ | ⟨_, e3, _⟩
        · exact absurd g k3
        · exact eq_f (nI_nn (by omega)) (eq_f (fun z => by have := (nI_ltI (a := 60) (by decide) (by omega)).mp z; omega) (eq_b e3 (eq_f (show ¬ (1 : Int32) = 0 by decide) rfl)))
  · exact Cal.same (r := -1) h0 (eq_b e1 (eq_t rfl rfl)) (eq_b e2 (eq_t rfl rfl))
/-- the first number from k on, of r of them, at which something is so -/
def fst1 (P : Nat → Bool) : Nat → Nat → Int32
  | _, 0 => -1
  | k, r + 1 => if P k = true then nI k else fst1 P (k + 1) r
-- alike
abbrev xkL (n0 : Nat) : Nat → Int32 → Int32 → Mem → Option (Int32 × Mem) := loopN (bX11_alike_56 n0) (fun _ _ _ => none)
theorem xalk {n0 last : Nat} {f g : Nat → Nat} {M : Mem} (h60 : last ≤ 60) (hf : ∀ j, j ≤ last → f j ≤ 23 ∧ g j ≤ 23) (h1 : ∀ j, j ≤ last → gA M 26 j = nI (f j)) (h2 : ∀ j, j ≤ last → gA M 27 j = nI (g j)) : ∀ w k, k ≤ last + 1 → last + 1 < w + k → xkL n0 w (nI last) (nI k) M = some (fst1 (fun j => decide (f j = g j)) k (last + 1 - k), M)
  | 0, k, hk, hw => by omega
  | w + 1, k, hk, hw => by
    show bX11_alike_56 n0 (xkL n0 w) (nI last) (nI k) M = _
    unfold bX11_alike_56
    by_cases z : k = last + 1
    · rw [z, Nat.sub_self]
      exact eq_t (nI_lt (by omega) (by omega)) rfl
    · have ck : (nI k).toNatClampNeg = k := nI_clamp (by omega)
      have ok : ¬ oob (nI k) 61 := nI_in (by omega) (by decide)
      obtain ⟨b1, b2⟩ := hf k (by omega)
      have st : ¬ nI last < nI k := fun y => by have := (nI_ltI (by omega) (by omega)).mp y; omega
      rw [show last + 1 - k = (last + 1 - (k + 1)) + 1 by omega]
      show _ = some (if decide (f k = g k) = true then nI k else fst1 (fun j => decide (f j = g j)) (k + 1) (last + 1 - (k + 1)), M)
      by_cases y : f k = g k
      · rw [if_pos (decide_eq_true y)]
        exact eq_f st (eq_f ok (eq_f ok (eq_t (by rw [ck, h1 k (by omega), h2 k (by omega), y]) rfl)))
      · rw [if_neg (fun u => y (of_decide_eq_true u))]
        refine eq_f st (eq_f ok (eq_f ok (eq_f (by rw [ck, h1 k (by omega), h2 k (by omega)]; exact fun u => y ((nI_eq (by omega) (by omega)).mp u)) ?_)))
        rw [show nI k + 1 = nI (k + 1) from nI_add k 1]
        exact xalk h60 hf h1 h2 w (k + 1) (by omega) (by omega)
abbrev ykL (n0 : Nat) : Nat → Int32 → Int32 → Int32 → Mem → Option (Int32 × Mem) := loopN (bX12_alike_31 n0) (fun _ _ _ _ => none)
theorem yalk {n0 b c1 c2 m : Nat} {T : TP} {pm : Nat → Int32 × Nat} (hn : 1700 ≤ n0) (hc1 : c1 < T.nc) (hc2 : c2 < T.nc) (hO : PsO T.nt T.nc pm) (hm : m ≤ 9999) : ∀ w k M (s : Nat × List (Nat × Nat)), k ≤ min 60 (9999 - m) + 1 → min 60 (9999 - m) + 1 < w + k → YT n0 b T M → LyD 1 T.nc (m + k) (trP T m pm k) s M → sOk T.nd s → gA M 28 0 = nI m → ∃ M', ykL n0 w (nI c1) (nI c2) (nI k) M = some (fst1 (fun j => decide (hrs T.hF T.gF c1 m (pm c1) j = hrs T.hF T.gF c2 m (pm c2) j)) k (min 60 (9999 - m) + 1 - k), M') ∧ YF (lP 1) M M'
  | 0, k, M, s, hk, hw, _, _, _, _ => by omega
  | w + 1, k, M, s, hk, hw, hY, hL, hs, h28 => by
    show ∃ M', bX12_alike_31 n0 (ykL n0 w) (nI c1) (nI c2) (nI k) M = _ ∧ _
    unfold bX12_alike_31
    by_cases z : k = min 60 (9999 - m) + 1
    · rw [z, Nat.sub_self]
      exact ⟨M, eq_b (yahF (lo := 0) (hi := 60) h28 hm (by decide) (by decide) (by omega) (by omega)) (eq_t rfl rfl), YF.r⟩
    · obtain ⟨l1, M1, e1, e2⟩ := yhr hY (v := 1) (by decide) hL.1 (trP_ok hO k) (by omega) hc1
      have f1 : YF (lP 1) M M1 := e2.y
      have Y1 := hY.yf f1 lP28
      have h5 := hY.2.1.2.1
      have hl := hs.l
      have L1 : LyD 1 T.nc (m + k) (trP T m pm k) s M1 := hL.fr (P := fun _ _ => False) e2.y h5 (by omega) (fun _ _ z => z.elim)
      obtain ⟨l2, M2, e3, e4⟩ := yhr Y1 (v := 1) (by decide) L1.1 (trP_ok hO k) (by omega) hc2
      have f2 : YF (lP 1) M M2 := f1.tr e4.y
      have L2 : LyD 1 T.nc (m + k) (trP T m pm k) s M2 := L1.fr (P := fun _ _ => False) e4.y h5 (by omega) (fun _ _ z => z.elim)
      have a1 := yahT (n0 := n0) (lo := 0) (hi := 60) (k := k) h28 (by omega) (by omega) (by decide) (by omega)
      rw [show min 60 (9999 - m) + 1 - k = (min 60 (9999 - m) + 1 - (k + 1)) + 1 by omega]
      show ∃ M', _ = some (if decide (hrs T.hF T.gF c1 m (pm c1) k = hrs T.hF T.gF c2 m (pm c2) k) = true then nI k else fst1 _ (k + 1) (min 60 (9999 - m) + 1 - (k + 1)), M') ∧ _
      by_cases y : hrs T.hF T.gF c1 m (pm c1) k = hrs T.hF T.gF c2 m (pm c2) k
      · rw [if_pos (decide_eq_true y)]
        exact ⟨M2, eq_b a1 (eq_f (show ¬ (1 : Int32) = 0 by decide) (eq_b e1 (eq_b e3 (eq_t (congrArg nI y) rfl)))), f2⟩
      · rw [if_neg (fun u => y (of_decide_eq_true u))]
        obtain ⟨M3, g1, g2, g3, g4⟩ := ypassD (v := 1) hn (hY.yf f2 lP28) (by decide) L2 (trP_ok hO k) hs (by omega)
        obtain ⟨M', r1, r2⟩ := yalk hn hc1 hc2 hO hm w (k + 1) M3 _ (by omega) (by omega) ((hY.yf f2 lP28).yf g4 lP28) g2 g3 (m28f (m28f h28 f2 n28) g4 n28)
        refine ⟨M', eq_b a1 (eq_f (show ¬ (1 : Int32) = 0 by decide) (eq_b e1 (eq_b e3 (eq_f (fun u => y ((nI_eq (Nat.lt_of_le_of_lt l1 (by decide)) (Nat.lt_of_le_of_lt l2 (by decide))).mp u)) (eq_b g1 ?_))))), f2.tr (g4.tr r2)⟩
        rw [show nI k + 1 = nI (k + 1) from nI_add k 1]
        exact r1
theorem cAlike {n0 : Nat} {x y : Int32} {MX MY : Mem} (hn : 1700 ≤ n0) (h : R n0 MX MY) : Cal n0 (fX11_alike n0 x y MX) (fX12_alike n0 x y MY) := by
  have h0 := h
  obtain ⟨q, b, T, nr, C, m, pm, s, h⟩ := h
  obtain ⟨h1, h2, h3, h4, _⟩ := id h
  have hm := h2.1
  have hl := h2.2.2.l
  have h5 := h1.2.2.2.1.2.1.2.1
  have y28 : gA MY 28 0 = nI m := h4.1.1
  unfold fX11_alike fX12_alike
  rcases isCo h1 x with ⟨c, hc, rfl, e1, e2⟩ | ⟨z, e1, e2⟩
  · rcases isCo h1 y with ⟨d, hd, rfl, e3, e4⟩ | ⟨z, e3, e4⟩
    · by_cases g : c = d
      · subst g
        exact Cal.same (r := -1) h0 (eq_b e1 (eq_f (show ¬ (1 : Int32) = 0 by decide) (eq_b e3 (eq_f (show ¬ (1 : Int32) = 0 by decide) (eq_t rfl rfl))))) (eq_b e2 (eq_f (show ¬ (1 : Int32) = 0 by decide) (eq_b e4 (eq_f (show ¬ (1 : Int32) = 0 by decide) (eq_t rfl rfl)))))
      · have hne : ¬ nI c = nI d := fun z => g ((nI_eq (by omega) (by omega)).mp z)
        obtain ⟨X1, a1, a2, a3⟩ := xfc (n0 := n0) (q1 := 26) (most := 60) hn h1.2.2.2.1 h3 h2.2.1 hc hm (by omega) (Or.inl rfl)
        have T1 := h1.2.2.2.1.xf a3 (fun a z => by omega)
        have S1 := h3.fr a3 (fun a z y => by unfold stA at y; omega)
        obtain ⟨X2, b1, b2, b3⟩ := xfc (n0 := n0) (q1 := 27) (most := 60) hn T1 S1 h2.2.1 hd hm (by omega) (Or.inr rfl)
        have a26 : ∀ j, j ≤ min 60 (9999 - m) → gA X2 26 j = nI (hrs T.hF T.gF c m (pm c) j) := fun j hj => by
          rw [b3.gA (a := 26) (by decide) (by decide)]
          exact a2 j hj
        have e5 := xalk (n0 := n0) (last := min 60 (9999 - m)) (f := hrs T.hF T.gF c m (pm c)) (g := hrs T.hF T.gF d m (pm d)) (M := X2) (by omega) (fun j hj => ⟨hrs_le h1.2.2.2.2.1 hc (h2.2.1 c hc) (by omega), hrs_le h1.2.2.2.2.1 hd (h2.2.1 d hd) (by omega)⟩) a26 b2 n0 0 (by omega) (by omega)
        obtain ⟨Y1, c1, c2, c3⟩ := ycopyD (n0 := n0) (v := 1) (u := 0) hn (by decide) (by decide) (by decide) h5 (by omega) h4
        obtain ⟨Y2, d1, d2⟩ := yalk (n0 := n0) (b := b) (m := m) hn hc hd h2.2.1 hm n0 0 Y1 s (by omega) (by omega) (h1.2.2.2.2.1.yf c3 lP28) c2 h2.2.2 (m28f y28 c3 n28)
        exact Cal.scr h (eq_b e1 (eq_f (show ¬ (1 : Int32) = 0 by decide) (eq_b e3 (eq_f (show ¬ (1 : Int32) = 0 by decide) (eq_f hne (eq_b a1 (eq_b b1 e5))))))) (eq_b e2 (eq_f (show ¬ (1 : Int32) = 0 by decide) (eq_b e4 (eq_f (show ¬ (1 : Int32) = 0 by decide) (eq_f hne (eq_b c1 d1)))))) ((a3.wk (fun a z => by unfold scA; omega)).tr (b3.wk (fun a z => by unfold scA; omega))) (lsc (c3.tr d2))
    · exact Cal.same (r := -1) h0 (eq_b e1 (eq_f (show ¬ (1 : Int32) = 0 by decide) (eq_b e3 (eq_t rfl rfl)))) (eq_b e2 (eq_f (show ¬ (1 : Int32) = 0 by decide) (eq_b e4 (eq_t rfl rfl))))
  · exact Cal.same (r := -1) h0 (eq_b e1 (eq_t rfl rfl)) (eq_b e2 (eq_t rfl rfl))
-- when
theorem fnS_bit {du : Nat → Bool} {m nd : Nat} {s : Nat × List (Nat × Nat)} (hn : nd ≤ 6) (h : sOk nd s) (e : Nat) (he : e < 6) : ∀ d, d ≤ nd → (fnS du m s d).1 / 2 ^ e % 2 = if e < d ∧ s.1 / 2 ^ e % 2 = 0 ∧ du e = true then 1 else s.1 / 2 ^ e % 2
  | 0, _ => by rw [if_neg (fun z => by omega)]; rfl
  | d + 1, hd => by
    have ih := fnS_bit hn h e he d (by omega) (du := du) (m := m)
    have sok := fnS_ok (du := du) (m := m) hn h d (by omega)
    have s64 : (fnS du m s d).1 < 64 := Nat.lt_of_lt_of_le sok.1 (p64 hn)
    have st : fnS du m s (d + 1) = if (fnS du m s d).1 / 2 ^ d % 2 = 0 ∧ du d = true then ((fnS du m s d).1 + 2 ^ d, (fnS du m s d).2 ++ [(m, d)]) else fnS du m s d := rfl
    have idd := fnS_bit hn h d (by omega) d (by omega) (du := du) (m := m)
    rw [if_neg (fun z => by omega)] at idd
    rw [st]
    by_cases g : (fnS du m s d).1 / 2 ^ d % 2 = 0 ∧ du d = true
    · rw [if_pos g]
      show ((fnS du m s d).1 + 2 ^ d) / 2 ^ e % 2 = _
      rw [bt_at _ s64 d (by omega) g.1 e he]
      by_cases z : e = d
      · rw [if_pos z, z, if_pos ⟨by omega, by rw [← idd]; exact g.1, g.2⟩]
      · rw [if_neg z, ih]
        by_cases y : e < d ∧ s.1 / 2 ^ e % 2 = 0 ∧ du e = true
        · rw [if_pos y, if_pos ⟨by omega, y.2⟩]
        · rw [if_neg y, if_neg (fun u => y ⟨by omega, u.2⟩)]
    · rw [if_neg g, ih]
      by_cases y : e < d ∧ s.1 / 2 ^ e % 2 = 0 ∧ du e = true
      · rw [if_pos y, if_pos ⟨by omega, y.2⟩]
      · rw [if_neg y]
        by_cases z : e = d
        · subst z
          rw [if_neg (fun u => g ⟨by rw [idd]; exact u.2.1, u.2.2⟩)]
        · rw [if_neg (fun u => y ⟨by omega, u.2⟩)]
abbrev xwL (n0 : Nat) : Nat → Int32 → Int32 → Int32 → Mem → Option (Int32 × Mem) := loopN (bX11_when_50 n0) (fun _ _ _ _ => none)
theorem xwhn {n0 q d last : Nat} {T : TP} {f : Nat → Nat} {M : Mem} (hT : XT n0 q T M) (hq : gR M 1 = q) (hd : d < T.nd) (h60 : last ≤ 60) (hf : ∀ j, j ≤ last → f j ≤ 23) (h1 : ∀ j, j ≤ last → gA M 26 j = nI (f j)) : ∀ w k, k ≤ last + 1 → last + 1 < w + k → xwL n0 w (nI d) (nI last) (nI k) M = some (fst1 (fun j => decide (f j = T.dh d)) k (last + 1 - k), M)
  | 0, k, hk, hw => by omega
  | w + 1, k, hk, hw => by
    show bX11_when_50 n0 (xwL n0 w) (nI d) (nI last) (nI k) M = _
    have h6 := hT.2.1.2.2.1
    have d2 := (hT.2.1.2.2.2 d hd).2
    unfold bX11_when_50
    by_cases z : k = last + 1
    · rw [z, Nat.sub_self]
      exact eq_t (nI_lt (by omega) (by omega)) rfl
    · have ck : (nI k).toNatClampNeg = k := nI_clamp (by omega)
      have cd : (nI d).toNatClampNeg = d := nI_clamp (by omega)
      have ok : ¬ oob (nI k) 61 := nI_in (by omega) (by decide)
      have od : ¬ oob (nI d) 6 := nI_in (by omega) (by decide)
      have b1 := hf k (by omega)
      have q11 : gA M (gR M 1 + 11) (nI d).toNatClampNeg = nI (T.dh d) := by rw [hq, cd]; exact (hT.2.2.2.2 d hd).2
      have st : ¬ nI last < nI k := fun y => by have := (nI_ltI (by omega) (by omega)).mp y; omega
      rw [show last + 1 - k = (last + 1 - (k + 1)) + 1 by omega]
      show _ = some (if decide (f k = T.dh d) = true then nI k else fst1 (fun j => decide (f j = T.dh d)) (k + 1) (last + 1 - (k + 1)), M)
      by_cases y : f k = T.dh d
      · rw [if_pos (decide_eq_true y)]
        exact eq_f st (eq_f ok (eq_f od (eq_t (by rw [ck, h1 k (by omega), q11, y]) rfl)))
      · rw [if_neg (fun u => y (of_decide_eq_true u))]
        refine eq_f st (eq_f ok (eq_f od (eq_f (by rw [ck, h1 k (by omega), q11]; exact fun u => y ((nI_eq (by omega) (by omega)).mp u)) ?_)))
        rw [show nI k + 1 = nI (k + 1) from nI_add k 1]
        exact xwhn hT hq hd h60 hf h1 w (k + 1) (by omega) (by omega)
abbrev ywL (n0 : Nat) : Nat → Int32 → Int32 → Mem → Option (Int32 × Mem) := loopN (bX12_when_18 n0) (fun _ _ _ => none)
theorem ywhn {n0 b d m : Nat} {T : TP} {pm : Nat → Int32 × Nat} (hn : 1700 ≤ n0) (hd : d < T.nd) (hO : PsO T.nt T.nc pm) (hm : m ≤ 9999) : ∀ w k M (s : Nat × List (Nat × Nat)), k ≤ min 60 (9999 - m) + 1 → min 60 (9999 - m) + 1 < w + k → YT n0 b T M → LyD 1 T.nc (m + k) (trP T m pm k) s M → sOk T.nd s → gA M 28 0 = nI m → ∃ M', ywL n0 w (nI d) (nI k) M = some (if k ≤ min 60 (9999 - m) then (if s.1 / 2 ^ d % 2 = 1 then nI k else fst1 (fun j => decide (hrs T.hF T.gF (T.dc d) m (pm (T.dc d)) j = T.dh d)) (k + 1) (min 60 (9999 - m) - k)) else -1, M') ∧ YF (lP 1) M M'
  | 0, k, M, s, hk, hw, _, _, _, _ => by omega
  | w + 1, k, M, s, hk, hw, hY, hL, hs, h28 => by
    show ∃ M', bX12_when_18 n0 (ywL n0 w) (nI d) (nI k) M = _ ∧ _
    have h6 := hY.2.1.2.2.1
    have s64 : s.1 < 64 := Nat.lt_of_lt_of_le hs.1 (p64 h6)
    unfold bX12_when_18
    by_cases z : k = min 60 (9999 - m) + 1
    · rw [if_neg (by omega)]
      exact ⟨M, eq_b (yahF (lo := 0) (hi := 60) h28 hm (by decide) (by decide) (by omega) (by omega)) (eq_t rfl rfl), YF.r⟩
    · rw [if_pos (by omega)]
      have a1 := yahT (n0 := n0) (lo := 0) (hi := 60) (k := k) h28 (by omega) (by omega) (by decide) (by omega)
      have a2 : fX12_has2 n0 (gA M 31 (Int32.toNatClampNeg 1)) (nI d) M = some (bI (s.1 / 2 ^ d % 2 = 1), M) := by
        rw [show gA M 31 (Int32.toNatClampNeg 1) = nI s.1 from hL.2.1]
        exact yhas2 s64 (by omega)
      by_cases y : s.1 / 2 ^ d % 2 = 1
      · rw [if_pos y]
        exact ⟨M, eq_b a1 (eq_f (show ¬ (1 : Int32) = 0 by decide) (eq_f (by decide) (eq_b a2 (eq_f (show ¬ bI (s.1 / 2 ^ d % 2 = 1) = 0 by rw [bI_t y]; decide) rfl)))), YF.r⟩
      · rw [if_neg y]
        obtain ⟨M1, g1, g2, g3, g4⟩ := ypassD (v := 1) hn hY (by decide) hL (trP_ok hO k) hs (by omega)
        obtain ⟨M', r1, r2⟩ := ywhn hn hd hO hm w (k + 1) M1 _ (by omega) (by omega) (hY.yf g4 lP28) g2 g3 (m28f h28 g4 n28)
        have bit : (nxS T (m + k) (trP T m pm k) s).1 / 2 ^ d % 2 = 1 ↔ hrs T.hF T.gF (T.dc d) m (pm (T.dc d)) (k + 1) = T.dh d := by
          have e := fnS_bit (du := due T (nxP T (m + k) (trP T m pm k)) (m + k + 1)) (m := m + k + 1) h6 hs d (by omega) T.nd (Nat.le_refl _)
          have e2 : (nxS T (m + k) (trP T m pm k) s).1 / 2 ^ d % 2 = if d < T.nd ∧ s.1 / 2 ^ d % 2 = 0 ∧ due T (nxP T (m + k) (trP T m pm k)) (m + k + 1) d = true then 1 else s.1 / 2 ^ d % 2 := e
          rw [e2]
          by_cases u : hrs T.hF T.gF (T.dc d) m (pm (T.dc d)) (k + 1) = T.dh d
          · rw [if_pos ⟨hd, by omega, decide_eq_true u⟩]
            exact ⟨fun _ => u, fun _ => rfl⟩
          · rw [if_neg (fun v => u (of_decide_eq_true v.2.2))]
            exact ⟨fun v => absurd v y, fun v => absurd v u⟩
        refine ⟨M', eq_b a1 (eq_f (show ¬ (1 : Int32) = 0 by decide) (eq_f (by decide) (eq_b a2 (eq_t (show bI (s.1 / 2 ^ d % 2 = 1) = 0 from bI_f y) (eq_b g1 ?_))))), g4.tr r2⟩
        rw [show nI k + 1 = nI (k + 1) from nI_add k 1]
        refine r1.trans ?_
        congr 2
        by_cases v : k + 1 ≤ min 60 (9999 - m)
        · rw [if_pos v, show min 60 (9999 - m) - k = (min 60 (9999 - m) - (k + 1)) + 1 by omega]
          show _ = if decide (hrs T.hF T.gF (T.dc d) m (pm (T.dc d)) (k + 1) = T.dh d) = true then nI (k + 1) else _
          by_cases u : hrs T.hF T.gF (T.dc d) m (pm (T.dc d)) (k + 1) = T.dh d
          · rw [if_pos (bit.mpr u), if_pos (decide_eq_true u)]
          · rw [if_neg (fun x => u (bit.mp x)), if_neg (fun x => u (of_decide_eq_true x))]
        · rw [if_neg v, show min 60 (9999 - m) - k = 0 by omega]
          rfl
theorem cWhen {n0 : Nat} {x : Int32} {MX MY : Mem} (hn : 1700 ≤ n0) (h : R n0 MX MY) : Cal n0 (fX11_when n0 x MX) (fX12_when n0 x MY) := by
  have h0 := h
  obtain ⟨q, b, T, nr, C, m, pm, s, h⟩ := h
  obtain ⟨h1, h2, h3, h4, _⟩ := id h
  have hm := h2.1
  have hl := h2.2.2.l
  obtain ⟨o1, o2, o3, o4⟩ := h1.2.2.2.1.2.1
  have y28 : gA MY 28 0 = nI m := h4.1.1
  unfold fX11_when fX12_when
  rcases isDo h1 x with ⟨d, hd, rfl, e1, e2⟩ | ⟨z, e1, e2⟩
  · have cd : (nI d).toNatClampNeg = d := nI_clamp (by omega)
    have od : ¬ oob (nI d) 6 := nI_in (by omega) (by decide)
    have dn := h3.2.2.2.2.1 d hd
    have dc := (o4 d hd).1
    obtain ⟨Y1, c1, c2, c3⟩ := ycopyD (n0 := n0) (v := 1) (u := 0) hn (by decide) (by decide) (by decide) o2 (by omega) h4
    obtain ⟨Y2, d1, d2⟩ := ywhn (n0 := n0) (b := b) (m := m) hn hd h2.2.1 hm n0 0 Y1 s (by omega) (by omega) (h1.2.2.2.2.1.yf c3 lP28) c2 h2.2.2 (m28f y28 c3 n28)
    rw [if_pos (Nat.zero_le _)] at d1
    by_cases g : s.1 / 2 ^ d % 2 = 1
    · rw [if_pos g] at d1
      exact Cal.scr (r := 0) h (eq_b e1 (eq_f (show ¬ (1 : Int32) = 0 by decide) (eq_f od (eq_t (by rw [cd, dn, g]; rfl) rfl)))) (eq_b e2 (eq_f (show ¬ (1 : Int32) = 0 by decide) (eq_b c1 d1))) XF.r (lsc (c3.tr d2))
    · rw [if_neg g] at d1
      obtain ⟨X1, a1, a2, a3⟩ := xfc (n0 := n0) (q1 := 26) (most := 60) hn h1.2.2.2.1 h3 h2.2.1 dc hm (by omega) (Or.inl rfl)
      have T1 := h1.2.2.2.1.xf a3 (fun a z => by omega)
      have e5 := xwhn (n0 := n0) (last := min 60 (9999 - m)) (f := hrs T.hF T.gF (T.dc d) m (pm (T.dc d))) (M := X1) T1 (by rw [a3.1]; exact h1.2.1) hd (by omega) (fun j hj => hrs_le h1.2.2.2.2.1 dc (h2.2.1 _ dc) (by omega)) a2 n0 1 (by omega) (by omega)
      rw [Nat.add_sub_cancel] at e5
      refine Cal.scr h (eq_b e1 (eq_f (show ¬ (1 : Int32) = 0 by decide) (eq_f od (eq_f (by rw [cd, dn, show s.1 / 2 ^ d % 2 = 0 by omega]; decide) (eq_f od (eq_b (z := (nI (min 60 (9999 - m)), X1)) ?_ e5)))))) (eq_b e2 (eq_f (show ¬ (1 : Int32) = 0 by decide) (eq_b c1 d1))) (a3.wk (fun a z => by unfold scA; omega)) (lsc (c3.tr d2))
      show fX11_foresee n0 26 (gA MX (gR MX 1 + 10) (nI d).toNatClampNeg) 60 MX = _
      rw [h1.2.1, cd, (h1.2.2.2.1.2.2.2.2 d hd).1]
      exact a1
  · exact Cal.same (r := -1) h0 (eq_b e1 (eq_t rfl rfl)) (eq_b e2 (eq_t rfl rfl))
end
section
/-! EVENINGS ON BOTH SIDES -/
def stay (f : Nat → Nat) : Nat → Nat → Nat
  | k, 0 => k
  | k, r + 1 => if f (k + 1) = f 0 then stay f (k + 1) r else k
theorem stay_le (f : Nat → Nat) : ∀ r k, stay f k r ≤ k + r
  | 0, k => Nat.le_refl _
  | r + 1, k => by
    show (if f (k + 1) = f 0 then stay f (k + 1) r else k) ≤ _
    by_cases g : f (k + 1) = f 0
    · rw [if_pos g]
      have := stay_le f r (k + 1)
      omega
    · rw [if_neg g]; omega
abbrev xtL (n0 : Nat) : Nat → Int32 → Int32 → Mem → Option (Int32 × Mem) := loopN (bX11_countStaying_34 n0) (fun _ _ _ => none)
theorem xsty {n0 last : Nat} {f : Nat → Nat} {M : Mem} (h60 : last ≤ 60) (hf : ∀ j, j ≤ last → f j ≤ 23) (h1 : ∀ j, j ≤ last → gA M 26 j = nI (f j)) : ∀ w k, k ≤ last → last + 1 < w + k + 1 → xtL n0 w (nI last) (nI (k + 1)) M = some (nI (stay f k (last - k)), M)
  | 0, k, hk, hw => by omega
  | w + 1, k, hk, hw => by
    show bX11_countStaying_34 n0 (xtL n0 w) (nI last) (nI (k + 1)) M = _
    unfold bX11_countStaying_34
    by_cases z : k = last
    · rw [z, Nat.sub_self]
      exact eq_t (nI_lt (by omega) (by omega)) rfl
    · have ck : (nI (k + 1)).toNatClampNeg = k + 1 := nI_clamp (by omega)
      have ok : ¬ oob (nI (k + 1)) 61 := nI_in (by omega) (by decide)
      have b1 := hf (k + 1) (by omega)
      have b0 := hf 0 (by omega)
      have st : ¬ nI last < nI (k + 1) := fun y => by have := (nI_ltI (by omega) (by omega)).mp y; omega
      have h0 : gA M 26 (Int32.toNatClampNeg 0) = nI (f 0) := h1 0 (by omega)
      rw [show last - k = (last - (k + 1)) + 1 by omega]
      show _ = some (nI (if f (k + 1) = f 0 then stay f (k + 1) (last - (k + 1)) else k), M)
      by_cases y : f (k + 1) = f 0
      · rw [if_pos y]
        refine eq_f st (eq_f ok (eq_f (by decide) (eq_t (by rw [ck, h1 _ (by omega), h0, y]) ?_)))
        rw [show nI (k + 1) + 1 = nI (k + 1 + 1) from nI_add (k + 1) 1]
        exact xsty h60 hf h1 w (k + 1) (by omega) (by omega)
      · rw [if_neg y]
        exact eq_f st (eq_f ok (eq_f (by decide) (eq_f (by rw [ck, h1 _ (by omega), h0]; exact fun u => y ((nI_eq (by omega) (by omega)).mp u)) (by rw [nIs]))))
theorem xcs {n0 q c m : Nat} {t : Int32} {T : TP} {pm : Nat → Int32 × Nat} {s : Nat × List (Nat × Nat)} {M : Mem} (hn : 1700 ≤ n0) (hT : XT n0 q T M) (hS : SX q T.nc T.nd m pm s M) (hc : c < T.nc) (ht : tOk T.nt t) (hm : m ≤ 9999) (hf : ∀ j, j ≤ min 60 (9999 - m) → hrs T.hF T.gF c m (t, 0) j ≤ 23) : ∃ M', fX11_countStaying n0 (nI c) t M = some (nI (stay (hrs T.hF T.gF c m (t, 0)) 0 (min 60 (9999 - m))), M') ∧ XF (fun a => a = 26) M M' := by
  have h5 := hT.2.1.2.1
  have f1 : XF (fun a => a = 26) M (hld M (nI c) t (nI 0) (nI m)) := hld_f
  obtain ⟨M2, e1, e2, e3⟩ := xfor (n0 := n0) (q1 := 26) (most := 60) hn (hT.1.xf f1 (fun a z => by omega)) (hld_p (h := 0) hS.1) (by omega) ⟨ht, Nat.zero_le _⟩ hm (by decide) (Or.inl rfl)
  refine ⟨M2, ?_, f1.tr e3⟩
  unfold fX11_countStaying
  rw [hS.2.2.1]
  exact eq_b (z := hld M (nI c) t (nI 0) (nI m)) xhold (eq_b e1 (xsty (by omega) hf e2 n0 0 (by omega) (by omega)))
theorem pmu {T : TP} {m c : Nat} {pm : Nat → Int32 × Nat} {v : Int32 × Nat} {k : Nat} : trP T m (upP pm c v) k c = tr T.gF c m v k := by
  show tr T.gF c m (if c = c then v else pm c) k = _
  rw [if_pos rfl]
abbrev yvL (n0 : Nat) (k27 : Int32 → Int32 → Int32 → Int32 → Int32 → Mem → Option (Int32 × Mem)) : Nat → Int32 → Int32 → Int32 → Int32 → Int32 → Int32 → Int32 → Int32 → Int32 → Mem → Option (Int32 × Mem) := loopN (bX12_evening_72 n0 k27) (fun _ _ _ _ _ _ _ _ _ _ => none)
theorem ysty {n0 b c m : Nat} {T : TP} {pm : Nat → Int32 × Nat} {v : Int32 × Nat} {s : Nat × List (Nat × Nat)} {k27 : Int32 → Int32 → Int32 → Int32 → Int32 → Mem → Option (Int32 × Mem)} {x2 x3 x4 x5 : Int32} (hn : 1700 ≤ n0) (hc : c < T.nc) (hO : PsO T.nt T.nc (upP pm c v)) (hs : sOk T.nd s) (hm : m ≤ 9999) (hf : ∀ j, j ≤ min 60 (9999 - m) → hrs T.hF T.gF c m v j ≤ 23) : ∀ w k M, k ≤ min 60 (9999 - m) → min 60 (9999 - m) + 2 < w + k + 1 → YT n0 b T M → LyD 1 T.nc (m + k) (trP T m (upP pm c v) k) s M → gA M 28 0 = nI m → ∃ M', yvL n0 k27 w (nI c) x2 x3 x4 x5 (nI (hrs T.hF T.gF c m v 0)) (nI k) 1 (nI (k + 1)) M = fX12_evening_132 n0 k27 (nI c) x2 x3 x4 x5 (nI (stay (hrs T.hF T.gF c m v) k (min 60 (9999 - m) - k))) M' ∧ YF (lP 1) M M'
  | 0, k, M, hk, hw, _, _, _ => by omega
  | w + 1, k, M, hk, hw, hY, hL, h28 => by
    show ∃ M', bX12_evening_72 n0 k27 (yvL n0 k27 w) (nI c) x2 x3 x4 x5 (nI (hrs T.hF T.gF c m v 0)) (nI k) 1 (nI (k + 1)) M = _ ∧ _
    unfold bX12_evening_72
    by_cases z : k = min 60 (9999 - m)
    · rw [← z, Nat.sub_self]
      exact ⟨M, eq_b (yahF (lo := 1) (hi := 60) h28 hm (by decide) (by decide) (by omega) (by omega)) (eq_t rfl rfl), YF.r⟩
    · have a1 := yahT (n0 := n0) (lo := 1) (hi := 60) (k := k + 1) h28 (by omega) (by omega) (by decide) (by omega)
      obtain ⟨M1, g1, g2, g3⟩ := ytickD (v := 1) hn hY (by decide) hL (trP_ok hO k) hs (by omega)
      obtain ⟨l1, M2, e1, e2⟩ := yhr (hY.yf g3 lP28) (v := 1) (by decide) g2.1 (trP_ok hO (k + 1)) (by omega) hc
      have ev : T.hF c (trP T m (upP pm c v) (k + 1) c).1 (trP T m (upP pm c v) (k + 1) c).2 (m + k + 1) = hrs T.hF T.gF c m v (k + 1) := by rw [pmu]; rfl
      rw [show (nxP T (m + k) (trP T m (upP pm c v) k)) = trP T m (upP pm c v) (k + 1) from rfl, ev] at e1
      have f2 : YF (lP 1) M M2 := g3.tr e2.y
      have h5 := hY.2.1.2.1
      have hl := hs.l
      have L2 : LyD 1 T.nc (m + (k + 1)) (trP T m (upP pm c v) (k + 1)) s M2 := LyD.fr (P := fun _ _ => False) g2 e2.y h5 (by omega) (fun _ _ z => z.elim)
      have b1 := hf (k + 1) (by omega)
      have b0 := hf 0 (by omega)
      have k1 : nI (k + 1) + 1 = nI (k + 1 + 1) := nI_add (k + 1) 1
      rw [show min 60 (9999 - m) - k = (min 60 (9999 - m) - (k + 1)) + 1 by omega]
      show ∃ M', _ = fX12_evening_132 n0 k27 (nI c) x2 x3 x4 x5 (nI (if hrs T.hF T.gF c m v (k + 1) = hrs T.hF T.gF c m v 0 then stay (hrs T.hF T.gF c m v) (k + 1) (min 60 (9999 - m) - (k + 1)) else k)) M' ∧ _
      by_cases y : hrs T.hF T.gF c m v (k + 1) = hrs T.hF T.gF c m v 0
      · rw [if_pos y]
        obtain ⟨M', r1, r2⟩ := ysty (k27 := k27) (x2 := x2) (x3 := x3) (x4 := x4) (x5 := x5) hn hc hO hs hm hf w (k + 1) M2 (by omega) (by omega) (hY.yf f2 lP28) L2 (m28f h28 f2 n28)
        refine ⟨M', eq_b a1 (eq_f (show ¬ (1 : Int32) = 0 by decide) (eq_f (by decide) (eq_b g1 (eq_b e1 (eq_t (congrArg nI y) ?_))))), f2.tr r2⟩
        unfold fX12_evening_110 fX12_evening_124
        rw [k1]
        exact eq_f (by decide) r1
      · rw [if_neg y]
        refine ⟨M2, eq_b a1 (eq_f (show ¬ (1 : Int32) = 0 by decide) (eq_f (by decide) (eq_b g1 (eq_b e1 (eq_f (fun u => y ((nI_eq (by omega) (by omega)).mp u)) ?_))))), f2⟩
        unfold fX12_evening_110 fX12_evening_124
        rw [k1]
        refine eq_t rfl ?_
        obtain ⟨w', rfl⟩ : ∃ w', w = w' + 1 := ⟨w - 1, by omega⟩
        show bX12_evening_72 n0 k27 (yvL n0 k27 w') (nI c) x2 x3 x4 x5 (nI (hrs T.hF T.gF c m v 0)) (nI k) 0 (nI (k + 1 + 1)) M2 = _
        unfold bX12_evening_72
        by_cases u : k + 1 + 1 ≤ 60 ∧ m + (k + 1 + 1) ≤ 9999
        · exact eq_b (yahT (lo := 1) (hi := 60) (m28f h28 f2 n28) (by omega) u.1 (by decide) u.2) (eq_f (show ¬ (1 : Int32) = 0 by decide) (eq_t rfl rfl))
        · exact eq_b (yahF (lo := 1) (hi := 60) (m28f h28 f2 n28) hm (by decide) (by decide) (by omega) u) (eq_t rfl rfl)
/-- a thing put into a palm of the layer that is tried -/
theorem yput1 {n0 nc m c : Nat} {t : Int32} {pm : Nat → Int32 × Nat} {s : Nat × List (Nat × Nat)} {M : Mem} (hL : LyD 1 nc m pm s M) (h5 : nc ≤ 5) (hc : c < nc) : ∃ M', fX12_puts n0 1 (nI c) t M = some M' ∧ LyD 1 nc m (upP pm c (t, 0)) s M' ∧ YF (lP 1) M M' := by
  refine ⟨_, yputs (v := 1) (by decide) (by omega), ⟨⟨by rw [gA_sA_ne (by decide), gA_sA_ne (by decide)]; exact hL.1.1, fun j hj => ?_⟩, by rw [gA_sA_ne (by decide), gA_sA_ne (by decide)]; exact hL.2.1, by rw [gA_sA_ne (by decide), gA_sA_ne (by decide)]; exact hL.2.2.1, fun i p hp => by rw [gA_sA_ne (by decide), gA_sA_ne (by decide)]; exact hL.2.2.2 i p hp⟩, (YF.r.a (by unfold lP tP; omega)).a (by unfold lP tP; omega)⟩
  rw [gA_sA_ne (by decide), gA_sA, if_pos rfl, gA_sA, if_pos rfl, gA_sA_ne (by decide)]
  unfold upP
  by_cases g : j = c
  · rw [if_pos (show 5 * 1 + j = 5 * 1 + c by omega), if_pos g, if_pos (show 5 * 1 + j = 5 * 1 + c by omega)]; exact ⟨rfl, rfl⟩
  · rw [if_neg (show ¬ 5 * 1 + j = 5 * 1 + c by omega), if_neg g, if_neg (show ¬ 5 * 1 + j = 5 * 1 + c by omega)]; exact hL.1.2 j hj
theorem upP_ok {nt nc c : Nat} {pm : Nat → Int32 × Nat} {v : Int32 × Nat} (h : PsO nt nc pm) (hv : pOk nt v) : PsO nt nc (upP pm c v) := fun j hj => by
  unfold upP
  by_cases g : j = c
  · rw [if_pos g]; exact hv
  · rw [if_neg g]; exact h j hj
theorem upP_at {c : Nat} {pm : Nat → Int32 × Nat} {v : Int32 × Nat} : upP pm c v c = v := if_pos rfl
abbrev xeL (n0 : Nat) : Nat → Int32 → Int32 → Int32 → Int32 → Int32 → Mem → Option (Int32 × Mem) := loopN (bX11_evening_40 n0) (fun _ _ _ _ _ _ => none)
abbrev yeL (n0 : Nat) : Nat → Int32 → Int32 → Int32 → Int32 → Int32 → Mem → Option (Int32 × Mem) := loopN (bX12_evening_27 n0) (fun _ _ _ _ _ _ => none)
theorem evnL {n0 q b : Nat} {T : TP} {nr C m c : Nat} {pm : Nat → Int32 × Nat} {s : Nat × List (Nat × Nat)} {x2 : Int32} (hn : 1700 ≤ n0) (hc : c < T.nc) : ∀ w t (bX bY mo : Int32) (MX MY : Mem), t ≤ T.nt → T.nt < w + t → RR n0 q b T nr C m pm s MX MY → ((t = 0 ∧ mo = -1) ∨ (0 < t ∧ bX = bY ∧ ∃ k, k ≤ 60 ∧ mo = nI k)) → 0 < T.nt → ∃ r MX' MY', xeL n0 w (nI c) x2 bX mo (nI t) MX = some (r, MX') ∧ yeL n0 w (nI c) x2 bY mo (nI t) MY = some (r, MY') ∧ R n0 MX' MY'
  | 0, t, _, _, _, _, _, ht, hw, _, _, _ => by omega
  | w + 1, t, bX, bY, mo, MX, MY, ht, hw, h, hi, h0 => by
    show ∃ r MX' MY', bX11_evening_40 n0 (xeL n0 w) (nI c) x2 bX mo (nI t) MX = _ ∧ bX12_evening_27 n0 (yeL n0 w) (nI c) x2 bY mo (nI t) MY = _ ∧ _
    obtain ⟨h1, h2, h3, h4, _⟩ := id h
    obtain ⟨o1, o2, o3, _⟩ := h1.2.2.2.1.2.1
    have hb := h1.2.2.2.2.1.2.2.1
    have hm := h2.1
    have hl := h2.2.2.l
    have h13 := h1.2.2.2.2.1.2.2.2.1
    have xq : gI MX (128 * gR MX 1 + 1) = nI T.nt := by rw [h1.2.1]; exact h1.2.2.2.1.1.2.2.1
    have yq : gA MY 2 (gI MY 13).toNatClampNeg = nI T.nt := by rw [h13, nI_clamp (by omega)]; exact h1.2.2.2.2.1.2.2.2.2.1
    have o13 : ¬ oob (gI MY 13) 2 := by rw [h13]; exact nI_in (by omega) (by decide)
    unfold bX11_evening_40 bX12_evening_27
    by_cases g : t = T.nt
    · rcases hi with ⟨z, _⟩ | ⟨_, rfl, _⟩
      · omega
      · subst g
        by_cases z : x2 = 0
        · exact ⟨bX, MX, MY, eq_t (by rw [xq]; exact Int32.le_refl _) (eq_t z rfl), eq_f o13 (eq_t (by rw [yq]; exact Int32.le_refl _) (eq_t z rfl)), q, b, T, nr, C, m, pm, s, h⟩
        · exact ⟨mo, MX, MY, eq_t (by rw [xq]; exact Int32.le_refl _) (eq_f z rfl), eq_f o13 (eq_t (by rw [yq]; exact Int32.le_refl _) (eq_f z rfl)), q, b, T, nr, C, m, pm, s, h⟩
    · have tO : tOk T.nt (nI t) := Or.inr ⟨t, by omega, rfl⟩
      have vO : pOk T.nt (nI t, 0) := ⟨tO, Nat.zero_le _⟩
      have hf : ∀ j, j ≤ min 60 (9999 - m) → hrs T.hF T.gF c m (nI t, 0) j ≤ 23 := fun j hj => hrs_le h1.2.2.2.2.1 hc vO (by omega)
      obtain ⟨X1, a1, a2⟩ := xcs (n0 := n0) hn h1.2.2.2.1 h3 hc tO hm hf
      obtain ⟨Y1, b1, b2, b3⟩ := ycopyD (n0 := n0) (v := 1) (u := 0) hn (by decide) (by decide) (by decide) o2 (by omega) h4
      obtain ⟨Y2, c1, c2, c3⟩ := yput1 (n0 := n0) (t := nI t) b2 o2 hc
      have f2 := b3.tr c3
      have YT2 := h1.2.2.2.2.1.yf f2 lP28
      have PO := upP_ok (c := c) h2.2.1 vO
      obtain ⟨_, Y3, d1, d2⟩ := yhr YT2 (v := 1) (by decide) c2.1 PO (by omega) hc
      rw [upP_at] at d1
      have f3 : YF (lP 1) MY Y3 := f2.tr d2.y
      have L3 : LyD 1 T.nc (m + 0) (trP T m (upP pm c (nI t, 0)) 0) s Y3 := LyD.fr (P := fun _ _ => False) c2 d2.y o2 (by omega) (fun _ _ z => z.elim)
      obtain ⟨Y4, e1, e2⟩ := ysty (n0 := n0) (k27 := yeL n0 w) (x2 := x2) (x3 := bY) (x4 := mo) (x5 := nI t) hn hc PO h2.2.2 hm hf n0 0 Y3 (by omega) (by omega) (h1.2.2.2.2.1.yf f3 lP28) L3 (m28f h4.1.1 f3 n28)
      rw [Nat.sub_zero] at e1
      have sl := stay_le (hrs T.hF T.gF c m (nI t, 0)) (min 60 (9999 - m)) 0
      have RR2 := h.scr (a2.wk (fun a z => by unfold scA; omega)) (lsc (f3.tr e2))
      have t1 : nI t + 1 = nI (t + 1) := nI_add t 1
      have xst : ∀ r, (if nI (stay (hrs T.hF T.gF c m (nI t, 0)) 0 (min 60 (9999 - m))) ≤ mo then fX11_evening_75 n0 (xeL n0 w) (nI c) x2 bX mo (nI t) X1 else fX11_evening_75 n0 (xeL n0 w) (nI c) x2 (nI t) (nI (stay (hrs T.hF T.gF c m (nI t, 0)) 0 (min 60 (9999 - m)))) (nI t) X1) = r → bX11_evening_40 n0 (xeL n0 w) (nI c) x2 bX mo (nI t) MX = r := fun r hr => by
        unfold bX11_evening_40
        exact eq_f (by rw [xq]; exact nI_ge (by omega) (by omega)) (eq_b a1 hr)
      have yst : ∀ r, fX12_evening_132 n0 (yeL n0 w) (nI c) x2 bY mo (nI t) (nI (stay (hrs T.hF T.gF c m (nI t, 0)) 0 (min 60 (9999 - m)))) Y4 = r → bX12_evening_27 n0 (yeL n0 w) (nI c) x2 bY mo (nI t) MY = r := fun r hr => by
        unfold bX12_evening_27
        refine eq_f o13 (eq_f (by rw [yq]; exact nI_ge (by omega) (by omega)) (eq_b b1 (eq_b c1 (eq_b d1 (Eq.trans e1 hr)))))
      have fin : ∀ bX' bY' mo', (0 < t + 1 ∧ bX' = bY' ∧ ∃ k, k ≤ 60 ∧ mo' = nI k) → fX11_evening_75 n0 (xeL n0 w) (nI c) x2 bX' mo' (nI t) X1 = xeL n0 w (nI c) x2 bX' mo' (nI (t + 1)) X1 ∧ fX12_evening_149 n0 (yeL n0 w) (nI c) x2 bY' mo' (nI t) Y4 = yeL n0 w (nI c) x2 bY' mo' (nI (t + 1)) Y4 ∧ ∃ r MX' MY', xeL n0 w (nI c) x2 bX' mo' (nI (t + 1)) X1 = some (r, MX') ∧ yeL n0 w (nI c) x2 bY' mo' (nI (t + 1)) Y4 = some (r, MY') ∧ R n0 MX' MY' := fun bX' bY' mo' hi' => by
        refine ⟨by unfold fX11_evening_75; rw [t1], by unfold fX12_evening_149; rw [t1], ?_⟩
        exact evnL hn hc w (t + 1) bX' bY' mo' X1 Y4 (by omega) (by omega) RR2 (Or.inr hi') h0
      by_cases u : mo < nI (stay (hrs T.hF T.gF c m (nI t, 0)) 0 (min 60 (9999 - m)))
      · obtain ⟨p1, p2, r, MX', MY', p3, p4, p5⟩ := fin (nI t) (nI t) (nI (stay (hrs T.hF T.gF c m (nI t, 0)) 0 (min 60 (9999 - m)))) ⟨by omega, rfl, _, by omega, rfl⟩
        refine ⟨r, MX', MY', xst _ (eq_f (Int32.not_le.mpr u) (p1.trans p3)), yst _ ?_, p5⟩
        unfold fX12_evening_132
        exact eq_t u (p2.trans p4)
      · rcases hi with ⟨_, z⟩ | hi
        · exact absurd (by rw [z, i_lt, nI_toInt (by omega), show (-1 : Int32).toInt = -1 from rfl]; omega) u
        · obtain ⟨p1, p2, r, MX', MY', p3, p4, p5⟩ := fin bX bY mo ⟨by omega, hi.2⟩
          refine ⟨r, MX', MY', xst _ (eq_t (Int32.not_lt.mp u) (p1.trans p3)), yst _ ?_, p5⟩
          unfold fX12_evening_132
          exact eq_f u (p2.trans p4)
theorem cEvening {n0 : Nat} {x y : Int32} {MX MY : Mem} (hn : 1700 ≤ n0) (h : R n0 MX MY) : Cal n0 (fX11_evening n0 x y MX) (fX12_evening n0 x y MY) := by
  have h0 := h
  obtain ⟨q, b, T, nr, C, m, pm, s, h⟩ := h
  obtain ⟨h1, h2, h3, h4, _⟩ := id h
  obtain ⟨o1, o2, o3, _⟩ := h1.2.2.2.1.2.1
  have xq : gI MX (128 * gR MX 1 + 1) = nI T.nt := by rw [h1.2.1]; exact h1.2.2.2.1.1.2.2.1
  unfold fX11_evening fX12_evening
  rcases isCo h1 x with ⟨c, hc, rfl, e1, e2⟩ | ⟨z, e1, e2⟩
  · rcases yisc (n0 := n0) 2 (x := y) (hi := 1) (by decide) (by decide) with ⟨k, hk, rfl, e⟩ | ⟨z, e⟩
    · by_cases g : T.nt = 0
      · refine Cal.same (r := -1) h0 (eq_b e1 (eq_f (show ¬ (1 : Int32) = 0 by decide) (eq_t (show gI MX (128 * gR MX 1 + 1) = 0 by rw [xq, g]; rfl) rfl))) (eq_b e2 (eq_f (show ¬ (1 : Int32) = 0 by decide) (eq_b (e MY) (eq_f (show ¬ (1 : Int32) = 0 by decide) ?_))))
        have hb := h1.2.2.2.2.1.2.2.1
        have h13 := h1.2.2.2.2.1.2.2.2.1
        have yq : gA MY 2 (gI MY 13).toNatClampNeg = nI T.nt := by rw [h13, nI_clamp (by omega)]; exact h1.2.2.2.2.1.2.2.2.2.1
        have o13 : ¬ oob (gI MY 13) 2 := by rw [h13]; exact nI_in (by omega) (by decide)
        obtain ⟨w, rfl⟩ : ∃ w, n0 = w + 1 := ⟨n0 - 1, by omega⟩
        show bX12_evening_27 (w + 1) (yeL (w + 1) w) (nI c) (nI k) (-1) (-1) 0 MY = _
        unfold bX12_evening_27
        refine eq_f o13 (eq_t (by rw [yq, g]; decide) ?_)
        by_cases z : nI k = 0
        · exact eq_t z rfl
        · exact eq_f z rfl
      · obtain ⟨r, MX', MY', p3, p4, p5⟩ := evnL (n0 := n0) (x2 := nI k) hn hc n0 0 0 (-1) (-1) MX MY (by omega) (by omega) h (Or.inl ⟨rfl, rfl⟩) (by omega)
        exact ⟨r, MX', MY', eq_b e1 (eq_f (show ¬ (1 : Int32) = 0 by decide) (eq_f (show ¬ gI MX (128 * gR MX 1 + 1) = 0 by rw [xq]; exact nI_ne0 (by omega) (by omega)) (eq_f (nI_nn (by omega)) (eq_t (nI_le (b := 1) (by omega) (by decide)) p3)))), eq_b e2 (eq_f (show ¬ (1 : Int32) = 0 by decide) (eq_b (e MY) (eq_f (show ¬ (1 : Int32) = 0 by decide) p4))), p5⟩
    · refine Cal.same (r := -1) h0 (eq_b e1 (eq_f (show ¬ (1 : Int32) = 0 by decide) ?_)) (eq_b e2 (eq_f (show ¬ (1 : Int32) = 0 by decide) (eq_b (e MY) (eq_t rfl rfl))))
      by_cases g : gI MX (128 * gR MX 1 + 1) = 0
      · exact eq_t g rfl
      · by_cases g2 : y < 0
        · exact eq_f g (eq_t g2 rfl)
        · refine eq_f g (eq_f g2 (eq_f (fun u => ?_) rfl))
          have z2 := z.resolve_left g2
          rw [i_le] at z2 u
          have a1 : (nI 2).toInt = 2 := rfl
          have a2 : (1 : Int32).toInt = 1 := rfl
          omega
  · exact Cal.same (r := -1) h0 (eq_b e1 (eq_t rfl rfl)) (eq_b e2 (eq_t rfl rfl))
end
section
/-! WHAT WAS HELD: the class -/
theorem b7_has : ∀ D, D < 128 → ∀ d, d < 7 → ((((nI D) >>> ((nI d) &&& 31)) &&& (1 : Int32) = 1) ↔ D / 2 ^ d % 2 = 1) := by decide +kernel
theorem b7_or : ∀ d, d < 7 → ∀ D, D < 128 → D < 2 ^ d → (nI D) ||| ((1 : Int32) <<< ((nI d) &&& 31)) = nI (D + 2 ^ d) := by decide +kernel
theorem b7_2 : ∀ d, d < 7 → ∀ D, D < 128 → D < 2 ^ d → ∀ v, v < 2 → D + v * 2 ^ d < 2 ^ (d + 1) := by decide +kernel
theorem b7_3 : ∀ d, d < 7 → ∀ D, D < 128 → D < 2 ^ d → ∀ v, v < 2 → (D + v * 2 ^ d) / 2 ^ d % 2 = v := by decide +kernel
theorem b7_4 : ∀ d, d < 7 → ∀ D, D < 128 → ∀ v, v < 2 → ∀ e, e < d → (D + v * 2 ^ d) / 2 ^ e % 2 = D / 2 ^ e % 2 := by decide +kernel
theorem p128 {n : Nat} (h : n ≤ 7) : 2 ^ n ≤ 128 := Nat.pow_le_pow_right (n := 2) (by decide) h
theorem Dn7 {f : Nat → Nat} (hf : ∀ d, f d ≤ 1) : ∀ d, d ≤ 7 → Dn f d < 2 ^ d ∧ ∀ e, e < d → Dn f d / 2 ^ e % 2 = f e
  | 0, _ => ⟨Nat.zero_lt_one, fun e he => by omega⟩
  | d + 1, hd => by
    obtain ⟨a1, a2⟩ := Dn7 hf d (by omega)
    have p := p128 (n := d) (by omega)
    have h1 := hf d
    refine ⟨b7_2 d (by omega) (Dn f d) (by omega) a1 (f d) (by omega), fun e he => ?_⟩
    by_cases z : e = d
    · rw [z]; exact b7_3 d (by omega) (Dn f d) (by omega) a1 (f d) (by omega)
    · exact (b7_4 d (by omega) (Dn f d) (by omega) (f d) (by omega) e (by omega)).trans (a2 e (by omega))
theorem Dn_congr {f g : Nat → Nat} : ∀ d, (∀ e, e < d → f e = g e) → Dn f d = Dn g d
  | 0, _ => rfl
  | d + 1, h => by
    show Dn f d + f d * 2 ^ d = Dn g d + g d * 2 ^ d
    rw [Dn_congr d (fun e he => h e (by omega)), h d (by omega)]
theorem Dn_zero {f : Nat → Nat} : ∀ d, (∀ e, e < d → f e = 0) → Dn f d = 0
  | 0, _ => rfl
  | d + 1, h => by
    show Dn f d + f d * 2 ^ d = 0
    rw [Dn_zero d (fun e he => h e (by omega)), h d (by omega), Nat.zero_mul]
/-- the thing of a choice: none, then things by numbers -/
def thI (u : Nat) : Int32 := if u = 0 then -1 else nI (u - 1)
theorem thI_1 (u : Nat) : thI u + 1 = nI u := by
  unfold thI
  by_cases g : u = 0
  · rw [if_pos g, g]; decide
  · rw [if_neg g, show nI (u - 1) + 1 = nI (u - 1 + 1) from nI_add _ 1, show u - 1 + 1 = u by omega]
theorem thI_s (u : Nat) : nI u = thI (u + 1) := by
  unfold thI
  rw [if_neg (by omega), Nat.add_sub_cancel]
theorem thI_ok {nt u : Nat} (h : u ≤ nt) : tOk nt (thI u) := by
  unfold thI
  by_cases g : u = 0
  · rw [if_pos g]; exact Or.inl rfl
  · rw [if_neg g]; exact Or.inr ⟨u - 1, by omega, rfl⟩
theorem thI_lt {nt u : Nat} (h : u ≤ nt) (hn : nt ≤ 6) : ¬ nI nt ≤ thI u := by
  unfold thI
  by_cases g : u = 0
  · rw [if_pos g, i_le, nI_toInt (by omega), show (-1 : Int32).toInt = -1 from rfl]
    omega
  · rw [if_neg g]
    exact nI_ge (by omega) (by omega)
def b01 (p : Bool) : Nat := if p = true then 1 else 0
theorem b01_le (p : Bool) : b01 p ≤ 1 := by cases p <;> decide
/-- rows seen that tell of a corner are so, by these hours up to the last minute -/
def soB (n : Nat) (ra rc rh : Nat → Nat) (o last : Nat) (f : Nat → Nat) : Bool := (List.range n).all (fun i => decide (rc i = o → ra i ≤ last ∧ f (ra i) = rh i))
theorem soB_iff {n : Nat} {ra rc rh : Nat → Nat} {o last : Nat} {f : Nat → Nat} : soB n ra rc rh o last f = true ↔ ∀ i, i < n → rc i = o → ra i ≤ last ∧ f (ra i) = rh i := by
  unfold soB
  rw [List.all_eq_true]
  constructor
  · intro h i hi
    exact of_decide_eq_true (h i (List.mem_range.mpr hi))
  · intro h i hi
    exact decide_eq_true (h i (List.mem_range.mp hi))
def XRw (n nc : Nat) (ra rc rh : Nat → Nat) (M : Mem) : Prop := n ≤ 16 ∧ gI M 2688 = nI n ∧ ∀ k, k < n → ra k ≤ 40 ∧ rc k < nc ∧ rh k ≤ 23 ∧ gA M 22 k = nI (ra k) ∧ gA M 23 k = nI (rc k) ∧ gA M 24 k = nI (rh k)
def YRw (n nc : Nat) (ra rc rh : Nat → Nat) (M : Mem) : Prop := n ≤ 16 ∧ gI M 61 = nI n ∧ ∀ k, k < n → ra k ≤ 40 ∧ rc k < nc ∧ rh k ≤ 23 ∧ gA M 39 k = nI (ra k) ∧ gA M 40 k = nI (rc k) ∧ gA M 41 k = nI (rh k)
theorem XRw.fr {n nc : Nat} {ra rc rh : Nat → Nat} {A : Nat → Prop} {M M' : Mem} (h : XRw n nc ra rc rh M) (f : XF A M M') (hA : ∀ a, A a → ¬ (22 ≤ a ∧ a ≤ 24)) : XRw n nc ra rc rh M' := ⟨h.1, (f.2.2.2.2 2688 (by decide)).trans h.2.1, fun k hk => by
  rw [f.gA (a := 22) (fun z => hA 22 z (by decide)) (by decide), f.gA (a := 23) (fun z => hA 23 z (by decide)) (by decide), f.gA (a := 24) (fun z => hA 24 z (by decide)) (by decide)]
  exact h.2.2 k hk⟩
theorem RN.rows {nc : Nat} {MX MY : Mem} (h : RN nc MX MY) (h5 : nc ≤ 5) : ∃ n ra rc rh, XRw n nc ra rc rh MX ∧ YRw n nc ra rc rh MY := by
  obtain ⟨n, n1, n2, n3, n4⟩ := h
  refine ⟨n, fun k => (gA MX 22 k).toNatClampNeg, fun k => (gA MX 23 k).toNatClampNeg, fun k => (gA MX 24 k).toNatClampNeg, ⟨n1, n2, fun k hk => ?_⟩, ⟨n1, n3, fun k hk => ?_⟩⟩
  · obtain ⟨a, c, h, a1, a2, a3, a4, a5, a6, a7, a8, a9⟩ := n4 k hk
    dsimp only
    rw [a4, a6, a8, nI_clamp (by omega), nI_clamp (by omega), nI_clamp (by omega)]
    exact ⟨a1, a2, a3, rfl, rfl, rfl⟩
  · obtain ⟨a, c, h, a1, a2, a3, a4, a5, a6, a7, a8, a9⟩ := n4 k hk
    dsimp only
    rw [a4, a6, a8, a5, a7, a9, nI_clamp (by omega), nI_clamp (by omega), nI_clamp (by omega)]
    exact ⟨a1, a2, a3, rfl, rfl, rfl⟩
abbrev xabL (n0 : Nat) : Nat → Int32 → Int32 → Mem → Option (Int32 × Mem) := loopN (bX5_isAbout_2 n0) (fun _ _ _ => none)
theorem xabout {n0 n nc o : Nat} {ra rc rh : Nat → Nat} {M : Mem} (hR : XRw n nc ra rc rh M) (h5 : nc ≤ 5) (ho : o < 5) : ∀ w i, i ≤ n → n < w + i → (∀ j, j < i → ¬ rc j = o) → (xabL n0 w (nI o) (nI i) M = some (1, M)) ∨ (xabL n0 w (nI o) (nI i) M = some (0, M) ∧ ∀ j, j < n → ¬ rc j = o)
  | 0, i, hi, hw, _ => by omega
  | w + 1, i, hi, hw, hj => by
    show (bX5_isAbout_2 n0 (xabL n0 w) (nI o) (nI i) M = _) ∨ (bX5_isAbout_2 n0 (xabL n0 w) (nI o) (nI i) M = _ ∧ _)
    have h16 := hR.1
    unfold bX5_isAbout_2
    by_cases g : i = n
    · exact Or.inr ⟨eq_t (by rw [hR.2.1, g]; exact Int32.le_refl _) rfl, fun j hjn => hj j (by omega)⟩
    · have ci : (nI i).toNatClampNeg = i := nI_clamp (by omega)
      obtain ⟨r1, r2, r3, r4, r5, r6⟩ := hR.2.2 i (by omega)
      have st : ¬ gI M 2688 ≤ nI i := by rw [hR.2.1]; exact nI_ge (by omega) (by omega)
      have oi : ¬ oob (nI i) 16 := nI_in (by omega) (by decide)
      by_cases z : rc i = o
      · exact Or.inl (eq_f st (eq_f oi (eq_t (by rw [ci, r5, z]) rfl)))
      · have k1 : nI i + 1 = nI (i + 1) := nI_add i 1
        rcases xabout hR h5 ho w (i + 1) (by omega) (by omega) (fun j hj2 => by
          by_cases y : j = i
          · rw [y]; exact z
          · exact hj j (by omega)) with r | ⟨r, s⟩
        · exact Or.inl (eq_f st (eq_f oi (eq_f (by rw [ci, r5]; exact fun y => z ((nI_eq (by omega) (by omega)).mp y)) (by rw [k1]; exact r))))
        · exact Or.inr ⟨eq_f st (eq_f oi (eq_f (by rw [ci, r5]; exact fun y => z ((nI_eq (by omega) (by omega)).mp y)) (by rw [k1]; exact r))), s⟩
abbrev xsoL (n0 : Nat) : Nat → Int32 → Int32 → Int32 → Mem → Option (Int32 × Mem) := loopN (bX5_isSo_3 n0 26) (fun _ _ _ _ => none)
theorem xso {n0 n nc o last : Nat} {ra rc rh : Nat → Nat} {f : Nat → Nat} {M : Mem} (hR : XRw n nc ra rc rh M) (h5 : nc ≤ 5) (ho : o < 5) (hl : last ≤ 40) (hf : ∀ j, j ≤ last → gA M 26 j = nI (f j) ∧ f j ≤ 23) : ∀ w i, i ≤ n → n < w + i → (∀ j, j < i → rc j = o → ra j ≤ last ∧ f (ra j) = rh j) → xsoL n0 w (nI o) (nI last) (nI i) M = some (bI (soB n ra rc rh o last f = true), M)
  | 0, i, hi, hw, _ => by omega
  | w + 1, i, hi, hw, hj => by
    show bX5_isSo_3 n0 26 (xsoL n0 w) (nI o) (nI last) (nI i) M = _
    have h16 := hR.1
    have ln26 : LX.ln 26 = 61 := rfl
    unfold bX5_isSo_3
    by_cases g : i = n
    · rw [bI_t (soB_iff.mpr (fun j hjn => hj j (by omega)))]
      exact eq_t (by rw [hR.2.1, g]; exact Int32.le_refl _) rfl
    · have ci : (nI i).toNatClampNeg = i := nI_clamp (by omega)
      obtain ⟨r1, r2, r3, r4, r5, r6⟩ := hR.2.2 i (by omega)
      have st : ¬ gI M 2688 ≤ nI i := by rw [hR.2.1]; exact nI_ge (by omega) (by omega)
      have oi : ¬ oob (nI i) 16 := nI_in (by omega) (by decide)
      have k1 : nI i + 1 = nI (i + 1) := nI_add i 1
      have a22 : gA M 22 (nI i).toNatClampNeg = nI (ra i) := by rw [ci, r4]
      have a23 : gA M 23 (nI i).toNatClampNeg = nI (rc i) := by rw [ci, r5]
      have a24 : gA M 24 (nI i).toNatClampNeg = nI (rh i) := by rw [ci, r6]
      have bad : ¬ (rc i = o → ra i ≤ last ∧ f (ra i) = rh i) → bI (soB n ra rc rh o last f = true) = 0 := fun z => bI_f (fun y => z (soB_iff.mp y i (by omega)))
      have nxt : (rc i = o → ra i ≤ last ∧ f (ra i) = rh i) → fX5_isSo_79 n0 26 (xsoL n0 w) (nI o) (nI last) (nI i) M = some (bI (soB n ra rc rh o last f = true), M) := fun z => by
        unfold fX5_isSo_79
        rw [k1]
        exact xso hR h5 ho hl hf w (i + 1) (by omega) (by omega) (fun j hj2 => by
          by_cases y : j = i
          · rw [y]; exact z
          · exact hj j (by omega))
      by_cases z : rc i = o
      · refine eq_f st (eq_f oi (eq_t (by rw [a23, z]) (eq_f oi ?_)))
        by_cases y : ra i ≤ last
        · have e1 : ¬ nI last < gA M 22 (nI i).toNatClampNeg := by rw [a22]; exact fun u => by have := (nI_ltI (by omega) (by omega)).mp u; omega
          have e2 : ¬ Int32.ofNat (LX.ln 26) ≤ gA M 22 (nI i).toNatClampNeg := by rw [a22, ln26]; exact nI_ge (b := 61) (by omega) (by decide)
          have e3 : gA M 26 (gA M 22 (nI i).toNatClampNeg).toNatClampNeg = nI (f (ra i)) := by rw [a22, nI_clamp (by omega)]; exact (hf _ y).1
          have e4 := (hf _ y).2
          refine eq_f e1 (eq_f oi (eq_f e2 ?_))
          unfold fX5_isSo_51
          refine eq_f (by decide) (eq_f oi (eq_f (by rw [a22, ln26]; exact nI_in (by omega) (by decide)) (eq_f oi ?_)))
          by_cases x : f (ra i) = rh i
          · exact eq_t (by rw [e3, a24, x]) (nxt (fun _ => ⟨y, x⟩))
          · rw [bad (fun u => x (u z).2)]
            exact eq_f (by rw [e3, a24]; exact fun u => x ((nI_eq (by omega) (by omega)).mp u)) rfl
        · rw [bad (fun u => y (u z).1)]
          refine eq_t (by rw [a22]; exact nI_lt (by omega) (by omega)) ?_
          unfold fX5_isSo_50 fX5_isSo_51
          exact eq_t rfl rfl
      · exact eq_f st (eq_f oi (eq_f (by rw [a23]; exact fun y => z ((nI_eq (by omega) (by omega)).mp y)) (nxt (fun u => absurd u z))))
theorem ln83 : ∀ j, j < 7 → LX.ln (83 + j) = 41 := by decide +kernel
abbrev xnL (n0 : Nat) : Nat → Int32 → Int32 → Int32 → Mem → Option Mem := loopN (bX5_noteHours_14 n0 26) (fun _ _ _ _ => none)
theorem xnote {n0 u last : Nat} (hu : u < 7) (hl : last ≤ 40) : ∀ w k M, k ≤ last + 1 → last + 1 < w + k → ∃ M', xnL n0 w (nI u) (nI last) (nI k) M = some M' ∧ (∀ j, k ≤ j → j ≤ last → gA M' (83 + u) j = gA M 26 j) ∧ gR M' = gR M ∧ gL M' = gL M ∧ gB M' = gB M ∧ gI M' = gI M ∧ ∀ a i, ¬ (a = 83 + u ∧ k ≤ i) → gA M' a i = gA M a i
  | 0, k, M, hk, hw => by omega
  | w + 1, k, M, hk, hw => by
    show ∃ M', bX5_noteHours_14 n0 26 (xnL n0 w) (nI u) (nI last) (nI k) M = _ ∧ _
    have ln26 : LX.ln 26 = 61 := rfl
    unfold bX5_noteHours_14
    by_cases g : k = last + 1
    · exact ⟨M, eq_t (nI_lt (by omega) (by omega)) rfl, fun j h1 h2 => by omega, rfl, rfl, rfl, rfl, fun _ _ _ => rfl⟩
    · have ck : (nI k).toNatClampNeg = k := nI_clamp (by omega)
      have cu : (nI u).toNatClampNeg = u := nI_clamp (by omega)
      obtain ⟨M', r1, r2, r3, r4, r5, r6, r7⟩ := xnote (n0 := n0) hu hl w (k + 1) (sA M (83 + u) k (gA M 26 k)) (by omega) (by omega)
      refine ⟨M', eq_f (fun z => by have := (nI_ltI (by omega) (by omega)).mp z; omega) (eq_f (fun z => by have := (nI_ltI (a := 40) (by decide) (by omega)).mp z; omega) (eq_f (by rw [ln26]; exact nI_ge (b := 61) (by omega) (by decide)) (eq_f (nI_in hu (by decide)) (eq_f (by rw [ln26]; exact nI_in (by omega) (by decide)) (eq_f (by rw [cu, ln83 u hu]; exact nI_in (by omega) (by decide)) (eq_e (v' := sA M (83 + u) k (gA M 26 k)) (by rw [cu, ck]) ?_)))))), fun j h1 h2 => ?_, r3, r4, r5, r6, fun a i z => ?_⟩
      · rw [show nI k + 1 = nI (k + 1) from nI_add k 1]
        exact r1
      · by_cases h : j = k
        · rw [h, r7 (83 + u) k (by omega), gA_sA, if_pos rfl, if_pos rfl]
        · rw [r2 j (by omega) h2, gA_sA_ne (by omega)]
      · rw [r7 a i (by omega), gA_sA]
        by_cases h : a = 83 + u
        · rw [if_pos h, if_neg (by omega), h]
        · rw [if_neg h]
def hA (a : Nat) : Prop := a = 26 ∨ (83 ≤ a ∧ a < 90)
theorem hA31 : ∀ a, hA a → a < 31 ∨ 63 ≤ a := fun a z => by unfold hA at z; omega
theorem hAst : ∀ a, hA a → ¬ stA a := fun a z y => by unfold hA at z; unfold stA at y; omega
theorem hA22 : ∀ a, hA a → ¬ (22 ≤ a ∧ a ≤ 24) := fun a z => by unfold hA at z; omega
theorem hAsc {M M' : Mem} (f : XF hA M M') : XF scA M M' := f.wk (fun a z => by unfold hA at z; unfold scA; omega)
/-- the hours of a corner with the thing of each choice -/
def hby (T : TP) (c m u : Nat) : Nat → Nat := hrs T.hF T.gF c m (thI u, 0)
abbrev xhdL (n0 : Nat) : Nat → Int32 → Int32 → Int32 → Mem → Option (Int32 × Mem) := loopN (bX11_findHeld_69 n0) (fun _ _ _ _ => none)
theorem xhd69 {n0 q c m n : Nat} {T : TP} {pm : Nat → Int32 × Nat} {s : Nat × List (Nat × Nat)} {ra rc rh : Nat → Nat} (hn : 1700 ≤ n0) (hc : c < T.nc) (hm : m ≤ 9999) (h23 : ∀ u j, u ≤ T.nt → j ≤ min 40 (9999 - m) → hby T c m u j ≤ 23) :
    ∀ w u M, u ≤ T.nt + 1 → T.nt + 1 < w + u → XT n0 q T M → SX q T.nc T.nd m pm s M → gR M 1 = q → XRw n T.nc ra rc rh M → (∀ v j, v < u → j ≤ min 40 (9999 - m) → gA M (83 + v) j = nI (hby T c m v j)) →
    ∃ M', xhdL n0 w (nI c) (nI (Dn (fun v => b01 (soB n ra rc rh c (min 40 (9999 - m)) (hby T c m v))) u)) (thI u) M = some (nI (Dn (fun v => b01 (soB n ra rc rh c (min 40 (9999 - m)) (hby T c m v))) (T.nt + 1)), M') ∧ (∀ v j, v ≤ T.nt → j ≤ min 40 (9999 - m) → gA M' (83 + v) j = nI (hby T c m v j)) ∧ XF hA M M'
  | 0, u, M, hu, hw, _, _, _, _, _ => by omega
  | w + 1, u, M, hu, hw, hT, hS, hq, hR, hB => by
    show ∃ M', bX11_findHeld_69 n0 (xhdL n0 w) (nI c) _ (thI u) M = _ ∧ _
    obtain ⟨o1, o2, o3, _⟩ := hT.2.1
    have q1 : gI M (128 * gR M 1 + 1) = nI T.nt := by rw [hq]; exact hT.1.2.2.1
    unfold bX11_findHeld_69
    by_cases g : u = T.nt + 1
    · subst g
      exact ⟨M, eq_t (by rw [q1, ← thI_s]; exact Int32.le_refl _) rfl, fun v j hv hj => hB v j (by omega) hj, XF.r⟩
    · have tO : tOk T.nt (thI u) := thI_ok (by omega)
      have f1 : XF hA M (hld M (nI c) (thI u) (nI 0) (nI m)) := hld_f
      obtain ⟨M2, e1, e2, e3⟩ := xfor (n0 := n0) (q1 := 26) (most := 40) hn (hT.1.xf f1 hA31) (hld_p (h := 0) hS.1) (by omega) ⟨tO, Nat.zero_le _⟩ hm (by decide) (Or.inl rfl)
      have f2 : XF hA M M2 := f1.tr (e3.wk (fun a z => Or.inl z))
      obtain ⟨M3, d1, d2, d3, d4, d5, d6, d7⟩ := xnote (n0 := n0) (u := u) (last := min 40 (9999 - m)) (by omega) (by omega) n0 0 M2 (by omega) (by omega)
      have f3 : XF hA M2 M3 := ⟨d3, d4, d5, fun a z => by funext i; exact d7 a i (fun y => z (Or.inr (Or.inr (by unfold hA; omega)))), fun k _ => by rw [d6]⟩
      have f4 := f2.tr f3
      have R3 := hR.fr f4 hA22
      have a26 : gA M3 26 = gA M2 26 := by funext i; exact d7 26 i (by omega)
      have sv := xso (n0 := n0) (f := hby T c m u) R3 o2 (by omega : c < 5) (show min 40 (9999 - m) ≤ 40 by omega) (fun j hj => ⟨by rw [a26]; exact e2 j hj, h23 u j (by omega) hj⟩) n0 0 (by omega) (by have := R3.1; omega) (fun j hj => by omega)
      have b83 : ∀ v j, v < u + 1 → j ≤ min 40 (9999 - m) → gA M3 (83 + v) j = nI (hby T c m v j) := fun v j hv hj => by
        by_cases z : v = u
        · rw [z, d2 j (by omega) hj]
          exact e2 j hj
        · rw [d7 (83 + v) j (by omega), e3.gA (a := 83 + v) (by omega) (by omega)]
          exact hB v j (by omega) hj
      have D7 := Dn7 (f := fun v => b01 (soB n ra rc rh c (min 40 (9999 - m)) (hby T c m v))) (fun d => b01_le _) u (by omega)
      have P7 := p128 (n := u) (by omega)
      obtain ⟨M', r1, r2, r3⟩ := xhd69 (ra := ra) (rc := rc) (rh := rh) (n := n) hn hc hm h23 w (u + 1) M3 (by omega) (by omega) (hT.xf f4 hA31) (hS.fr f4 hAst) (by rw [f4.1]; exact hq) R3 b83
      refine ⟨M', ?_, r2, f4.tr r3⟩
      have tu : thI u + 1 = nI u := thI_1 u
      refine eq_f (by rw [q1]; exact thI_lt (by omega) o1) (eq_b (z := hld M (nI c) (thI u) (nI 0) (nI m)) (by rw [hS.2.2.1]; exact xhold) (eq_b e1 (eq_b (z := M3) ?_ (eq_b sv ?_))))
      · unfold fX5_noteHours
        rw [tu]
        exact eq_f (nI_nn (by omega)) (eq_t (nI_lt (b := 7) (by omega) (by decide)) d1)
      · have step : Dn (fun v => b01 (soB n ra rc rh c (min 40 (9999 - m)) (hby T c m v))) (u + 1) = Dn (fun v => b01 (soB n ra rc rh c (min 40 (9999 - m)) (hby T c m v))) u + b01 (soB n ra rc rh c (min 40 (9999 - m)) (hby T c m u)) * 2 ^ u := rfl
        by_cases z : soB n ra rc rh c (min 40 (9999 - m)) (hby T c m u) = true
        · refine eq_f (show ¬ bI (soB n ra rc rh c (min 40 (9999 - m)) (hby T c m u) = true) = 0 by rw [bI_t z]; decide) (eq_e (v' := nI (Dn (fun v => b01 (soB n ra rc rh c (min 40 (9999 - m)) (hby T c m v))) (u + 1))) ?_ ?_)
          · rw [tu, b7_or u (by omega) _ (by omega) D7.1, step, z]
            congr 2
            show 2 ^ u = 1 * 2 ^ u
            omega
          · unfold fX11_findHeld_153
            rw [tu, thI_s]
            exact r1
        · refine eq_t (show bI (soB n ra rc rh c (min 40 (9999 - m)) (hby T c m u) = true) = 0 from bI_f z) ?_
          unfold fX11_findHeld_153
          rw [tu, thI_s]
          have e0 : b01 (soB n ra rc rh c (min 40 (9999 - m)) (hby T c m u)) = 0 := if_neg z
          rw [step, e0, Nat.zero_mul, Nat.add_zero] at r1
          exact r1
abbrev xh2L (n0 : Nat) : Nat → Int32 → Int32 → Mem → Option (Int32 × Mem) := loopN (bX11_findHeld_2 n0) (fun _ _ _ => none)
theorem xhd2 {n0 q b c m n : Nat} {T : TP} {pm : Nat → Int32 × Nat} {s : Nat × List (Nat × Nat)} {ra rc rh : Nat → Nat} {MY : Mem} (hn : 1700 ≤ n0) (hY : YT n0 b T MY) (hc : c < T.nc) (hm : m ≤ 9999) (hO : PsO T.nt T.nc pm) :
    ∀ w o M, o ≤ T.nc → T.nc < w + o → XT n0 q T M → SX q T.nc T.nd m pm s M → gR M 1 = q → XRw n T.nc ra rc rh M → (∀ j, j < o → ¬ j = c → soB n ra rc rh j (min 40 (9999 - m)) (hrs T.hF T.gF j m (pm j)) = true) →
    ∃ M', XF hA M M' ∧ ((xh2L n0 w (nI c) (nI o) M = fX11_findHeld_69 n0 (nI c) 0 (-1) M' ∧ ∀ j, j < T.nc → ¬ j = c → soB n ra rc rh j (min 40 (9999 - m)) (hrs T.hF T.gF j m (pm j)) = true) ∨ (xh2L n0 w (nI c) (nI o) M = some (0, M') ∧ ∃ j, j < T.nc ∧ ¬ j = c ∧ ¬ soB n ra rc rh j (min 40 (9999 - m)) (hrs T.hF T.gF j m (pm j)) = true))
  | 0, o, M, ho, hw, _, _, _, _, _ => by omega
  | w + 1, o, M, ho, hw, hT, hS, hq, hR, hj => by
    show ∃ M', XF hA M M' ∧ ((bX11_findHeld_2 n0 (xh2L n0 w) (nI c) (nI o) M = _ ∧ _) ∨ (bX11_findHeld_2 n0 (xh2L n0 w) (nI c) (nI o) M = _ ∧ _))
    obtain ⟨o1, o2, o3, _⟩ := hT.2.1
    have q5 : gI M (128 * gR M 1 + 5) = nI T.nc := by rw [hq]; exact hT.2.2.1
    have k1 : nI o + 1 = nI (o + 1) := nI_add o 1
    unfold bX11_findHeld_2
    by_cases g : o = T.nc
    · exact ⟨M, XF.r, Or.inl ⟨eq_t (by rw [q5, g]; exact Int32.le_refl _) rfl, fun j hjn => hj j (by omega)⟩⟩
    · have st : ¬ gI M (128 * gR M 1 + 5) ≤ nI o := by rw [q5]; exact nI_ge (by omega) (by omega)
      have nxt : ∀ M2, XF hA M M2 → (¬ o = c → soB n ra rc rh o (min 40 (9999 - m)) (hrs T.hF T.gF o m (pm o)) = true) → ∃ M', XF hA M M' ∧ ((fX11_findHeld_59 n0 (xh2L n0 w) (nI c) (nI o) M2 = fX11_findHeld_69 n0 (nI c) 0 (-1) M' ∧ ∀ j, j < T.nc → ¬ j = c → soB n ra rc rh j (min 40 (9999 - m)) (hrs T.hF T.gF j m (pm j)) = true) ∨ (fX11_findHeld_59 n0 (xh2L n0 w) (nI c) (nI o) M2 = some (0, M') ∧ ∃ j, j < T.nc ∧ ¬ j = c ∧ ¬ soB n ra rc rh j (min 40 (9999 - m)) (hrs T.hF T.gF j m (pm j)) = true)) := fun M2 f2 z => by
        obtain ⟨M', r1, r2⟩ := xhd2 hn hY hc hm hO w (o + 1) M2 (by omega) (by omega) (hT.xf f2 hA31) (hS.fr f2 hAst) (by rw [f2.1]; exact hq) (hR.fr f2 hA22) (fun j hj2 hne => by
          by_cases y : j = o
          · rw [y]; exact z (by rw [← y]; exact hne)
          · exact hj j (by omega) hne)
        refine ⟨M', f2.tr r1, ?_⟩
        unfold fX11_findHeld_59
        rw [k1]
        exact r2
      by_cases z : o = c
      · obtain ⟨M', r1, r2⟩ := nxt M XF.r (fun y => absurd z y)
        refine ⟨M', r1, ?_⟩
        rcases r2 with ⟨s1, s2⟩ | ⟨s1, s2⟩
        · exact Or.inl ⟨eq_f st (eq_t (by rw [z]) s1), s2⟩
        · exact Or.inr ⟨eq_f st (eq_t (by rw [z]) s1), s2⟩
      · have hne : ¬ nI o = nI c := fun y => z ((nI_eq (by omega) (by omega)).mp y)
        rcases xabout (n0 := n0) hR o2 (show o < 5 by omega) n0 0 (by omega) (by have := hR.1; omega) (fun j hj => by omega) with e | ⟨e, e'⟩
        · obtain ⟨M2, a1, a2, a3⟩ := xfc (n0 := n0) (q1 := 26) (most := 40) hn hT hS hO (show o < T.nc by omega) hm (by decide) (Or.inl rfl)
          have f2 : XF hA M M2 := a3.wk (fun a y => Or.inl y)
          have sv := xso (n0 := n0) (f := hrs T.hF T.gF o m (pm o)) (hR.fr f2 hA22) o2 (show o < 5 by omega) (show min 40 (9999 - m) ≤ 40 by omega) (fun j hj => ⟨a2 j hj, hrs_le hY (by omega) (hO o (by omega)) (by omega)⟩) n0 0 (by omega) (by have := hR.1; omega) (fun j hj => by omega)
          by_cases y : soB n ra rc rh o (min 40 (9999 - m)) (hrs T.hF T.gF o m (pm o)) = true
          · obtain ⟨M', r1, r2⟩ := nxt M2 f2 (fun _ => y)
            refine ⟨M', r1, ?_⟩
            have yy : ¬ bI (soB n ra rc rh o (min 40 (9999 - m)) (hrs T.hF T.gF o m (pm o)) = true) = 0 := by rw [bI_t y]; decide
            rcases r2 with ⟨s1, s2⟩ | ⟨s1, s2⟩
            · exact Or.inl ⟨eq_f st (eq_f hne (eq_b e (eq_f (show ¬ (1 : Int32) = 0 by decide) (eq_b a1 (eq_b sv (eq_f yy s1)))))), s2⟩
            · exact Or.inr ⟨eq_f st (eq_f hne (eq_b e (eq_f (show ¬ (1 : Int32) = 0 by decide) (eq_b a1 (eq_b sv (eq_f yy s1)))))), s2⟩
          · exact ⟨M2, f2, Or.inr ⟨eq_f st (eq_f hne (eq_b e (eq_f (show ¬ (1 : Int32) = 0 by decide) (eq_b a1 (eq_b sv (eq_t (bI_f y) rfl)))))), o, by omega, z, y⟩⟩
        · obtain ⟨M', r1, r2⟩ := nxt M XF.r (fun _ => soB_iff.mpr (fun i hi hrc => absurd hrc (e' i hi)))
          refine ⟨M', r1, ?_⟩
          rcases r2 with ⟨s1, s2⟩ | ⟨s1, s2⟩
          · exact Or.inl ⟨eq_f st (eq_f hne (eq_b e (eq_t rfl s1))), s2⟩
          · exact Or.inr ⟨eq_f st (eq_f hne (eq_b e (eq_t rfl s1))), s2⟩
/-- what could have been held, as bits -/
theorem xheld {n0 q b c m n : Nat} {T : TP} {pm : Nat → Int32 × Nat} {s : Nat × List (Nat × Nat)} {ra rc rh : Nat → Nat} {M MY : Mem} (hn : 1700 ≤ n0) (hY : YT n0 b T MY) (hc : c < T.nc) (hm : m ≤ 9999) (hO : PsO T.nt T.nc pm) (hT : XT n0 q T M) (hS : SX q T.nc T.nd m pm s M) (hq : gR M 1 = q) (hR : XRw n T.nc ra rc rh M) :
    ∃ M', XF hA M M' ∧ ((fX11_findHeld n0 (nI c) M = some (nI (Dn (fun v => b01 (soB n ra rc rh c (min 40 (9999 - m)) (hby T c m v))) (T.nt + 1)), M') ∧ (∀ j, j < T.nc → ¬ j = c → soB n ra rc rh j (min 40 (9999 - m)) (hrs T.hF T.gF j m (pm j)) = true) ∧ (∀ v j, v ≤ T.nt → j ≤ min 40 (9999 - m) → gA M' (83 + v) j = nI (hby T c m v j))) ∨ (fX11_findHeld n0 (nI c) M = some (0, M') ∧ ∃ j, j < T.nc ∧ ¬ j = c ∧ ¬ soB n ra rc rh j (min 40 (9999 - m)) (hrs T.hF T.gF j m (pm j)) = true)) := by
  obtain ⟨o1, o2, o3, _⟩ := hT.2.1
  obtain ⟨M1, f1, r⟩ := xhd2 (n0 := n0) (n := n) (ra := ra) (rc := rc) (rh := rh) hn hY hc hm hO n0 0 M (by omega) (by omega) hT hS hq hR (fun j hj => by omega)
  rcases r with ⟨r1, r2⟩ | ⟨r1, r2⟩
  · obtain ⟨M2, s1, s2, s3⟩ := xhd69 (n0 := n0) (n := n) (ra := ra) (rc := rc) (rh := rh) hn hc hm (fun u j hu hj => hrs_le hY hc ⟨thI_ok hu, Nat.zero_le _⟩ (by omega)) n0 0 M1 (by omega) (by omega) (hT.xf f1 hA31) (hS.fr f1 hAst) (by rw [f1.1]; exact hq) (hR.fr f1 hA22) (fun v j hv => by omega)
    exact ⟨M2, f1.tr s3, Or.inl ⟨r1.trans s1, r2, s2⟩⟩
  · exact ⟨M1, f1, Or.inr ⟨r1, r2⟩⟩
end
section
/-! WHAT WAS HELD: the reference, and the call -/
def cnt (P : Nat → Bool) : Nat → Nat
  | 0 => 0
  | i + 1 => cnt P i + b01 (P i)
theorem cnt_le (P : Nat → Bool) : ∀ i, cnt P i ≤ i
  | 0 => Nat.le_refl _
  | i + 1 => by
    have := cnt_le P i
    have := b01_le (P i)
    show cnt P i + b01 (P i) ≤ i + 1
    omega
theorem cnt_full {P : Nat → Bool} : ∀ n, cnt P n = n ↔ ∀ i, i < n → P i = true
  | 0 => ⟨fun _ i hi => by omega, fun _ => rfl⟩
  | n + 1 => by
    have ih := cnt_full (P := P) n
    have l := cnt_le P n
    show cnt P n + b01 (P n) = n + 1 ↔ _
    constructor
    · intro h
      have b := b01_le (P n)
      have e1 : cnt P n = n := by omega
      have e2 : P n = true := by
        by_cases z : P n = true
        · exact z
        · have : b01 (P n) = 0 := if_neg z
          omega
      intro i hi
      by_cases z : i = n
      · rw [z]; exact e2
      · exact ih.mp e1 i (by omega)
    · intro h
      rw [ih.mpr (fun i hi => h i (by omega)), h n (by omega)]
      rfl
theorem cnt_add {P Q S : Nat → Bool} : ∀ n, (∀ i, i < n → b01 (P i) + b01 (Q i) = b01 (S i)) → cnt P n + cnt Q n = cnt S n
  | 0, _ => rfl
  | n + 1, h => by
    have ih := cnt_add (P := P) (Q := Q) (S := S) n (fun i hi => h i (by omega))
    have e := h n (by omega)
    show cnt P n + b01 (P n) + (cnt Q n + b01 (Q n)) = cnt S n + b01 (S n)
    omega
theorem YRw.fr {n nc : Nat} {ra rc rh : Nat → Nat} {P : Nat → Nat → Prop} {M M' : Mem} (h : YRw n nc ra rc rh M) (f : YF P M M') (hP : ∀ a i, P a i → ¬ (39 ≤ a ∧ a ≤ 41)) : YRw n nc ra rc rh M' := ⟨h.1, by rw [f.2.2.1]; exact h.2.1, fun k hk => by
  rw [f.gA (a := 39) (fun i z => hP 39 i z (by decide)) (by decide), f.gA (a := 40) (fun i z => hP 40 i z (by decide)) (by decide), f.gA (a := 41) (fun i z => hP 41 i z (by decide)) (by decide)]
  exact h.2.2 k hk⟩
/-- layer 1 and the hours by each thing -/
def hP (a i : Nat) : Prop := lP 1 a i ∨ a = 42
theorem hP28 : ∀ a i, hP a i → 28 ≤ a := fun a i z => by unfold hP lP tP dP at z; omega
theorem hP39 : ∀ a i, hP a i → ¬ (39 ≤ a ∧ a ≤ 41) := fun a i z => by unfold hP lP tP dP at z; omega
theorem hPn : ¬ hP 28 0 := fun z => by unfold hP lP tP dP at z; omega
theorem hP0 : ∀ a i, hP a i → ¬ lP 0 a i := fun a i z y => by unfold hP lP tP dP at z; unfold lP tP dP at y; omega
theorem hPsc {M M' : Mem} (f : YF hP M M') : YF scP M M' := f.wk (fun a i z => z.elim (fun y => Or.inl y) (fun y => Or.inr (Or.inr y)))
theorem lh {M M' : Mem} (f : YF (lP 1) M M') : YF hP M M' := f.wk (fun _ _ z => Or.inl z)
/-- whether a row is met by the palms behind k minutes -/
def mtQ (T : TP) (m : Nat) (pm : Nat → Int32 × Nat) (ra rc rh : Nat → Nat) (k : Nat) : Nat → Bool := fun i => decide (ra i = k ∧ hrs T.hF T.gF (rc i) m (pm (rc i)) k = rh i)
def mtP (T : TP) (m : Nat) (pm : Nat → Int32 × Nat) (ra rc rh : Nat → Nat) (k : Nat) : Nat → Bool := fun i => decide (ra i < k ∧ hrs T.hF T.gF (rc i) m (pm (rc i)) (ra i) = rh i)
theorem mt_add {T : TP} {m k n : Nat} {pm : Nat → Int32 × Nat} {ra rc rh : Nat → Nat} : cnt (mtP T m pm ra rc rh k) n + cnt (mtQ T m pm ra rc rh k) n = cnt (mtP T m pm ra rc rh (k + 1)) n := by
  refine cnt_add n (fun i _ => ?_)
  unfold mtP mtQ b01
  by_cases z : ra i < k
  · have e1 : ¬ ra i = k := by omega
    by_cases y : hrs T.hF T.gF (rc i) m (pm (rc i)) (ra i) = rh i
    · rw [if_pos (decide_eq_true ⟨z, y⟩), if_neg (fun u => e1 (of_decide_eq_true u).1), if_pos (decide_eq_true ⟨by omega, y⟩)]
    · rw [if_neg (fun u => y (of_decide_eq_true u).2), if_neg (fun u => e1 (of_decide_eq_true u).1), if_neg (fun u => y (of_decide_eq_true u).2)]
  · by_cases e1 : ra i = k
    · by_cases y : hrs T.hF T.gF (rc i) m (pm (rc i)) (ra i) = rh i
      · rw [if_neg (fun u => z (of_decide_eq_true u).1), if_pos (decide_eq_true ⟨e1, by rw [← e1]; exact y⟩), if_pos (decide_eq_true ⟨by omega, y⟩)]
      · rw [if_neg (fun u => z (of_decide_eq_true u).1), if_neg (fun u => y (by rw [e1]; exact (of_decide_eq_true u).2)), if_neg (fun u => y (of_decide_eq_true u).2)]
    · rw [if_neg (fun u => z (of_decide_eq_true u).1), if_neg (fun u => e1 (of_decide_eq_true u).1), if_neg (fun u => by have := (of_decide_eq_true u).1; omega)]
abbrev yb71 (n0 : Nat) (k4 : Int32 → Int32 → Int32 → Mem → Option (Int32 × Mem)) (k36 : Int32 → Int32 → Int32 → Int32 → Int32 → Mem → Option (Int32 × Mem)) : Nat → Int32 → Int32 → Int32 → Int32 → Int32 → Int32 → Mem → Option (Int32 × Mem) := loopN (bX12_heldBits_71 n0 k4 k36) (fun _ _ _ _ _ _ _ => none)
theorem yh71 {n0 b m k n : Nat} {T : TP} {pm : Nat → Int32 × Nat} {s : Nat × List (Nat × Nat)} {ra rc rh : Nat → Nat} {k4 : Int32 → Int32 → Int32 → Mem → Option (Int32 × Mem)} {k36 : Int32 → Int32 → Int32 → Int32 → Int32 → Mem → Option (Int32 × Mem)} {x1 x2 x3 : Int32} (hn : 1700 ≤ n0) (hO : PsO T.nt T.nc pm) (hs : sOk T.nd s) (hm : m + k ≤ 9999) (hk40 : k ≤ 40) :
    ∀ w i met M, i ≤ n → n < w + i → YT n0 b T M → LyD 1 T.nc (m + k) (trP T m pm k) s M → YRw n T.nc ra rc rh M → met ≤ 1000 →
    ∃ M', yb71 n0 k4 k36 w x1 x2 x3 (nI (met + cnt (mtQ T m pm ra rc rh k) i)) (nI k) (nI i) M = k36 x1 x2 x3 (nI (met + cnt (mtQ T m pm ra rc rh k) n)) (nI (k + 1)) M' ∧ LyD 1 T.nc (m + k + 1) (trP T m pm (k + 1)) s M' ∧ YF (lP 1) M M'
  | 0, i, met, M, hi, hw, _, _, _, _ => by omega
  | w + 1, i, met, M, hi, hw, hY, hL, hR, hmet => by
    show ∃ M', bX12_heldBits_71 n0 k4 k36 (yb71 n0 k4 k36 w) x1 x2 x3 _ (nI k) (nI i) M = _ ∧ _
    have h16 := hR.1
    have h5 := hY.2.1.2.1
    have hl := hs.l
    have ci := cnt_le (mtQ T m pm ra rc rh k) i
    unfold bX12_heldBits_71
    by_cases g : i = n
    · subst g
      obtain ⟨M1, g1, g2, g3⟩ := ytickD (v := 1) hn hY (by decide) hL (trP_ok hO k) hs (by omega)
      refine ⟨M1, eq_t (by rw [hR.2.1]; exact Int32.le_refl _) (eq_b g1 ?_), g2, g3⟩
      rw [show nI k + 1 = nI (k + 1) from nI_add k 1]
    · have cii : (nI i).toNatClampNeg = i := nI_clamp (by omega)
      obtain ⟨r1, r2, r3, r4, r5, r6⟩ := hR.2.2 i (by omega)
      have st : ¬ gI M 61 ≤ nI i := by rw [hR.2.1]; exact nI_ge (by omega) (by omega)
      have oi : ¬ oob (nI i) 16 := nI_in (by omega) (by decide)
      have k1 : nI i + 1 = nI (i + 1) := nI_add i 1
      have step : cnt (mtQ T m pm ra rc rh k) (i + 1) = cnt (mtQ T m pm ra rc rh k) i + b01 (mtQ T m pm ra rc rh k i) := rfl
      have nxt : ∀ M2 u1, YF (lP 1) M M2 → LyD 1 T.nc (m + k) (trP T m pm k) s M2 → u1 = nI (b01 (mtQ T m pm ra rc rh k i)) → ∃ M', fX12_heldBits_121 n0 k4 k36 (yb71 n0 k4 k36 w) x1 x2 x3 (nI k) (nI i) (nI (met + cnt (mtQ T m pm ra rc rh k) i)) u1 M2 = k36 x1 x2 x3 (nI (met + cnt (mtQ T m pm ra rc rh k) n)) (nI (k + 1)) M' ∧ LyD 1 T.nc (m + k + 1) (trP T m pm (k + 1)) s M' ∧ YF (lP 1) M M' := fun M2 u1 f2 L2 e => by
        obtain ⟨M', p1, p2, p3⟩ := yh71 (k4 := k4) (k36 := k36) (x1 := x1) (x2 := x2) (x3 := x3) hn hO hs hm hk40 w (i + 1) met M2 (by omega) (by omega) (hY.yf f2 lP28) L2 (hR.fr f2 (fun a i z => by unfold lP tP dP at z; omega)) hmet
        refine ⟨M', ?_, p2, f2.tr p3⟩
        unfold fX12_heldBits_121
        refine eq_e (v' := nI (met + cnt (mtQ T m pm ra rc rh k) (i + 1))) ?_ ?_
        · rw [e, nI_add, step, Nat.add_assoc]
        · rw [k1]; exact p1
      by_cases z : ra i = k
      · obtain ⟨l1, M1, e1, e2⟩ := yhr hY (v := 1) (by decide) hL.1 (trP_ok hO k) (by omega) r2
        have L1 : LyD 1 T.nc (m + k) (trP T m pm k) s M1 := LyD.fr (P := fun _ _ => False) hL e2.y h5 (by omega) (fun _ _ z => z.elim)
        have a41 : gA M1 41 (nI i).toNatClampNeg = nI (rh i) := by rw [cii, e2.2.2.2.1 41 (by decide)]; exact r6
        have hq : T.hF (rc i) (trP T m pm k (rc i)).1 (trP T m pm k (rc i)).2 (m + k) = hrs T.hF T.gF (rc i) m (pm (rc i)) k := rfl
        rw [hq] at l1 e1
        by_cases y : hrs T.hF T.gF (rc i) m (pm (rc i)) k = rh i
        · obtain ⟨M', p1, p2, p3⟩ := nxt M1 1 e2.y L1 (by
            rw [show mtQ T m pm ra rc rh k i = true from decide_eq_true ⟨z, y⟩]
            rfl)
          exact ⟨M', eq_f st (eq_f oi (eq_t (by rw [cii, r4, z]) (eq_f oi (eq_b (by rw [cii, r5]; exact e1) (eq_f oi (eq_t (by rw [a41]; exact congrArg nI y) p1)))))), p2, p3⟩
        · obtain ⟨M', p1, p2, p3⟩ := nxt M1 0 e2.y L1 (by
            rw [show mtQ T m pm ra rc rh k i = false from decide_eq_false (fun u => y u.2)]
            rfl)
          refine ⟨M', eq_f st (eq_f oi (eq_t (by rw [cii, r4, z]) (eq_f oi (eq_b (by rw [cii, r5]; exact e1) (eq_f oi (eq_f (by rw [a41]; exact fun u => y ((nI_eq (by omega) (by omega)).mp u)) ?_)))))), p2, p3⟩
          unfold fX12_heldBits_120
          exact p1
      · obtain ⟨M', p1, p2, p3⟩ := nxt M 0 YF.r hL (by
          rw [show mtQ T m pm ra rc rh k i = false from decide_eq_false (fun u => z u.1)]
          rfl)
        refine ⟨M', eq_f st (eq_f oi (eq_f (by rw [cii, r4]; exact fun u => z ((nI_eq (by omega) (by omega)).mp u)) ?_)), p2, p3⟩
        unfold fX12_heldBits_120
        exact p1
theorem y41Ix (u k : Nat) : (41 : Int32) * nI u + nI k = nI (41 * u + k) := by
  rw [show (41 : Int32) = nI 41 from rfl, nI_mul, nI_add]
abbrev yb36 (n0 : Nat) (k4 : Int32 → Int32 → Int32 → Mem → Option (Int32 × Mem)) : Nat → Int32 → Int32 → Int32 → Int32 → Int32 → Mem → Option (Int32 × Mem) := loopN (bX12_heldBits_36 n0 k4) (fun _ _ _ _ _ _ => none)
theorem yh36 {n0 b c m n u : Nat} {T : TP} {pm : Nat → Int32 × Nat} {s : Nat × List (Nat × Nat)} {ra rc rh : Nat → Nat} {k4 : Int32 → Int32 → Int32 → Mem → Option (Int32 × Mem)} {x2 : Int32} (hn : 1700 ≤ n0) (hc : c < T.nc) (hu : u ≤ 6) (hO : PsO T.nt T.nc pm) (hs : sOk T.nd s) (hm : m ≤ 9999) :
    ∀ w k M, k ≤ min 40 (9999 - m) + 1 → min 40 (9999 - m) + 1 < w + k → YT n0 b T M → LyD 1 T.nc (m + k) (trP T m pm k) s M → YRw n T.nc ra rc rh M → gA M 28 0 = nI m →
    ∃ M', yb36 n0 k4 w (nI c) x2 (thI u) (nI (cnt (mtP T m pm ra rc rh k) n)) (nI k) M = fX12_heldBits_160 n0 k4 (nI c) (thI u) x2 (if cnt (mtP T m pm ra rc rh (min 40 (9999 - m) + 1)) n = n then (1 : Int32) <<< (nI u &&& 31) else 0) M' ∧ (∀ j, k ≤ j → j ≤ min 40 (9999 - m) → gA M' 42 (41 * u + j) = nI (hrs T.hF T.gF c m (pm c) j)) ∧ (∀ i, ¬ (41 * u + k ≤ i ∧ i < 41 * u + 41) → gA M' 42 i = gA M 42 i) ∧ YF hP M M'
  | 0, k, M, hk, hw, _, _, _, _ => by omega
  | w + 1, k, M, hk, hw, hY, hL, hR, h28 => by
    show ∃ M', bX12_heldBits_36 n0 k4 (yb36 n0 k4 w) (nI c) x2 (thI u) _ (nI k) M = _ ∧ _
    have h16 := hR.1
    have h5 := hY.2.1.2.1
    have hl := hs.l
    unfold bX12_heldBits_36
    by_cases g : k = min 40 (9999 - m) + 1
    · have a0 := yahF (n0 := n0) (lo := 0) (hi := 40) (k := k) h28 hm (by decide) (by decide) (by omega) (by omega)
      have cl := cnt_le (mtP T m pm ra rc rh k) n
      refine ⟨M, eq_b a0 (eq_t rfl ?_), fun j h1 h2 => by omega, fun _ _ => rfl, YF.r⟩
      rw [← g]
      by_cases z : cnt (mtP T m pm ra rc rh k) n = n
      · rw [if_pos z, thI_1]
        exact eq_t (by show nI _ = gI M 61; rw [hR.2.1, z]) rfl
      · rw [if_neg z]
        exact eq_f (by show ¬ nI _ = gI M 61; rw [hR.2.1]; exact fun y => z ((nI_eq (by omega) (by omega)).mp y)) rfl
    · have a1 := yahT (n0 := n0) (lo := 0) (hi := 40) (k := k) h28 (by omega) (by omega) (by decide) (by omega)
      obtain ⟨l1, M1, e1, e2⟩ := yhr hY (v := 1) (by decide) hL.1 (trP_ok hO k) (by omega) hc
      have ev : T.hF c (trP T m pm k c).1 (trP T m pm k c).2 (m + k) = hrs T.hF T.gF c m (pm c) k := rfl
      rw [ev] at e1 l1
      have hM2 : ∃ M2, M2 = sA M1 42 (41 * u + k) (nI (hrs T.hF T.gF c m (pm c) k)) := ⟨_, rfl⟩
      obtain ⟨M2, eM⟩ := hM2
      have f2 : YF hP M M2 := by rw [eM]; exact YF.a (e2.y) (Or.inr rfl)
      have L2 : LyD 1 T.nc (m + k) (trP T m pm k) s M2 := LyD.fr (P := fun a i => a = 42) hL (by rw [eM]; exact YF.a (e2.y) rfl) h5 (by omega) (fun a i z y => by unfold lP tP dP at y; omega)
      obtain ⟨M3, p1, p2, p3⟩ := yh71 (n0 := n0) (b := b) (n := n) (ra := ra) (rc := rc) (rh := rh) (k4 := k4) (k36 := yb36 n0 k4 w) (x1 := nI c) (x2 := x2) (x3 := thI u) hn hO hs (show m + k ≤ 9999 by omega) (by omega) n0 0 (cnt (mtP T m pm ra rc rh k) n) M2 (by omega) (by omega) (hY.yf f2 hP28) L2 (hR.fr f2 hP39) (by have := cnt_le (mtP T m pm ra rc rh k) n; omega)
      rw [mt_add] at p1
      have f3 : YF hP M M3 := f2.tr (lh p3)
      have a42 : ∀ i, gA M3 42 i = gA M2 42 i := fun i => p3.2.2.2.1 42 i (by decide) (fun z => by unfold lP tP dP at z; omega)
      have b42 : ∀ i, gA M1 42 i = gA M 42 i := fun i => by rw [e2.2.2.2.1 42 (by decide)]
      obtain ⟨M', r1, r2, r3, r4⟩ := yh36 (k4 := k4) (x2 := x2) hn hc hu hO hs hm w (k + 1) M3 (by omega) (by omega) (hY.yf f3 hP28) p2 (hR.fr f3 hP39) (m28f h28 f3 hPn)
      refine ⟨M', ?_, fun j h1 h2 => ?_, fun i z => ?_, f3.tr r4⟩
      · refine eq_b a1 (eq_f (show ¬ (1 : Int32) = 0 by decide) (eq_b e1 ?_))
        rw [thI_1, y41Ix]
        refine eq_f (nI_in (by omega) (by decide)) (eq_e (v' := M2) ?_ (Eq.trans p1 r1))
        rw [nI_clamp (by omega), eM]
      · by_cases z : j = k
        · rw [z, r3 _ (by omega), a42, eM, gA_sA, if_pos rfl, if_pos rfl]
        · exact r2 j (by omega) h2
      · rw [r3 i (by omega), a42, eM, gA_sA, if_pos rfl, if_neg (by omega), b42]
abbrev yb4 (n0 : Nat) : Nat → Int32 → Int32 → Int32 → Mem → Option (Int32 × Mem) := loopN (bX12_heldBits_4 n0) (fun _ _ _ _ => none)
/-- all rows are met with the thing of choice u -/
def metB (T : TP) (m n c : Nat) (pm : Nat → Int32 × Nat) (ra rc rh : Nat → Nat) (u : Nat) : Bool := decide (cnt (mtP T m (upP pm c (thI u, 0)) ra rc rh (min 40 (9999 - m) + 1)) n = n)
theorem yh4 {n0 b c m n : Nat} {T : TP} {pm : Nat → Int32 × Nat} {s : Nat × List (Nat × Nat)} {ra rc rh : Nat → Nat} (hn : 1700 ≤ n0) (hc : c < T.nc) (hO : PsO T.nt T.nc pm) (hs : sOk T.nd s) (hm : m ≤ 9999) :
    ∀ w u M, u ≤ T.nt + 1 → T.nt + 1 < w + u → YT n0 b T M → LyD 0 T.nc m pm s M → YRw n T.nc ra rc rh M → (∀ v j, v < u → j ≤ min 40 (9999 - m) → gA M 42 (41 * v + j) = nI (hby T c m v j)) →
    ∃ M', yb4 n0 w (nI c) (nI (Dn (fun v => b01 (metB T m n c pm ra rc rh v)) u)) (thI u) M = some (nI (Dn (fun v => b01 (metB T m n c pm ra rc rh v)) (T.nt + 1)), M') ∧ (∀ v j, v ≤ T.nt → j ≤ min 40 (9999 - m) → gA M' 42 (41 * v + j) = nI (hby T c m v j)) ∧ YF hP M M'
  | 0, u, M, hu, hw, _, _, _, _ => by omega
  | w + 1, u, M, hu, hw, hY, hL, hR, hB => by
    show ∃ M', bX12_heldBits_4 n0 (yb4 n0 w) (nI c) _ (thI u) M = _ ∧ _
    obtain ⟨o1, o2, o3, _⟩ := hY.2.1
    have hb := hY.2.2.1
    have hl := hs.l
    have o13 : ¬ oob (gI M 13) 2 := by rw [hY.2.2.2.1]; exact nI_in (by omega) (by decide)
    have yq : gA M 2 (gI M 13).toNatClampNeg = nI T.nt := by rw [hY.2.2.2.1, nI_clamp (by omega)]; exact hY.2.2.2.2.1
    unfold bX12_heldBits_4
    by_cases g : u = T.nt + 1
    · subst g
      exact ⟨M, eq_f o13 (eq_t (by rw [yq, ← thI_s]; exact Int32.le_refl _) rfl), fun v j hv hj => hB v j (by omega) hj, YF.r⟩
    · obtain ⟨M1, b1, b2, b3⟩ := ycopyD (n0 := n0) (v := 1) (u := 0) hn (by decide) (by decide) (by decide) o2 (by omega) hL
      obtain ⟨M2, c1, c2, c3⟩ := yput1 (n0 := n0) (t := thI u) b2 o2 hc
      have f2 : YF hP M M2 := lh (b3.tr c3)
      have PO := upP_ok (c := c) hO (show pOk T.nt (thI u, 0) from ⟨thI_ok (by omega), Nat.zero_le _⟩)
      have z0 : cnt (mtP T m (upP pm c (thI u, 0)) ra rc rh 0) n = 0 := by
        have : ∀ i, cnt (mtP T m (upP pm c (thI u, 0)) ra rc rh 0) i = 0 := fun i => by
          induction i with
          | zero => rfl
          | succ i ih =>
            show cnt _ i + b01 (mtP T m (upP pm c (thI u, 0)) ra rc rh 0 i) = 0
            rw [ih, show mtP T m (upP pm c (thI u, 0)) ra rc rh 0 i = false from decide_eq_false (fun z => by omega)]
            rfl
        exact this n
      obtain ⟨M3, p1, p2, p3, p4⟩ := yh36 (n0 := n0) (b := b) (c := c) (n := n) (u := u) (ra := ra) (rc := rc) (rh := rh) (k4 := yb4 n0 w) (x2 := nI (Dn (fun v => b01 (metB T m n c pm ra rc rh v)) u)) hn hc (by omega) PO hs hm n0 0 M2 (by omega) (by omega) (hY.yf f2 hP28) c2 (hR.fr f2 hP39) (m28f hL.1.1 f2 hPn)
      rw [z0] at p1
      have f3 : YF hP M M3 := f2.tr p4
      have L3 : LyD 0 T.nc m pm s M3 := hL.fr f3 o2 (by omega) hP0
      have D7 := Dn7 (f := fun v => b01 (metB T m n c pm ra rc rh v)) (fun d => b01_le _) u (by omega)
      have P7 := p128 (n := u) (by omega)
      have a42 : ∀ i, gA M2 42 i = gA M 42 i := fun i => (b3.tr c3).2.2.2.1 42 i (by decide) (fun z => by unfold lP tP dP at z; omega)
      obtain ⟨M', r1, r2, r3⟩ := yh4 (n := n) (ra := ra) (rc := rc) (rh := rh) hn hc hO hs hm w (u + 1) M3 (by omega) (by omega) (hY.yf f3 hP28) L3 (hR.fr f3 hP39) (fun v j hv hj => by
        by_cases z : v = u
        · rw [z, p2 j (by omega) hj, upP_at]
          rfl
        · rw [p3 _ (by omega), a42]
          exact hB v j (by omega) hj)
      refine ⟨M', eq_f o13 (eq_f (by rw [yq]; exact thI_lt (by omega) o1) (eq_b b1 (eq_b c1 (Eq.trans p1 ?_)))), r2, f3.tr r3⟩
      have step : Dn (fun v => b01 (metB T m n c pm ra rc rh v)) (u + 1) = Dn (fun v => b01 (metB T m n c pm ra rc rh v)) u + b01 (metB T m n c pm ra rc rh u) * 2 ^ u := rfl
      unfold fX12_heldBits_160
      refine eq_e (v' := nI (Dn (fun v => b01 (metB T m n c pm ra rc rh v)) (u + 1))) ?_ ?_
      · by_cases z : cnt (mtP T m (upP pm c (thI u, 0)) ra rc rh (min 40 (9999 - m) + 1)) n = n
        · rw [if_pos z, b7_or u (by omega) _ (by omega) D7.1, step, show metB T m n c pm ra rc rh u = true from decide_eq_true z]
          congr 2
          show 2 ^ u = 1 * 2 ^ u
          omega
        · rw [if_neg z, show (0 : Int32) = nI 0 from rfl, nOr, Nat.or_zero, step, show metB T m n c pm ra rc rh u = false from decide_eq_false z]
          congr 1
          show _ = _ + 0 * 2 ^ u
          omega
      · rw [thI_1, thI_s]
        exact r1
theorem met_iff {T : TP} {m n c u : Nat} {pm : Nat → Int32 × Nat} {ra rc rh : Nat → Nat} (hr : ∀ i, i < n → rc i < T.nc) : metB T m n c pm ra rc rh u = true ↔ ((∀ j, j < T.nc → ¬ j = c → soB n ra rc rh j (min 40 (9999 - m)) (hrs T.hF T.gF j m (pm j)) = true) ∧ soB n ra rc rh c (min 40 (9999 - m)) (hby T c m u) = true) := by
  unfold metB
  rw [decide_eq_true_iff, cnt_full]
  have ex : ∀ i, i < n → (mtP T m (upP pm c (thI u, 0)) ra rc rh (min 40 (9999 - m) + 1) i = true ↔ (ra i ≤ min 40 (9999 - m) ∧ hrs T.hF T.gF (rc i) m (upP pm c (thI u, 0) (rc i)) (ra i) = rh i)) := fun i _ => by
    unfold mtP
    rw [decide_eq_true_iff, Nat.lt_succ_iff]
  constructor
  · intro h
    refine ⟨fun j hj hne => soB_iff.mpr (fun i hi hrc => ?_), soB_iff.mpr (fun i hi hrc => ?_)⟩
    · have := (ex i hi).mp (h i hi)
      rw [hrc, show upP pm c (thI u, 0) j = pm j from if_neg hne] at this
      exact this
    · have := (ex i hi).mp (h i hi)
      rw [hrc, upP_at] at this
      exact this
  · intro h i hi
    refine (ex i hi).mpr ?_
    by_cases z : rc i = c
    · rw [z, upP_at]
      exact soB_iff.mp h.2 i hi z
    · rw [show upP pm c (thI u, 0) (rc i) = pm (rc i) from if_neg z]
      exact soB_iff.mp (h.1 (rc i) (hr i hi) z) i hi rfl
/-- what was held, as bits, on both sides; the hours by each thing -/
theorem held2 {n0 q b : Nat} {T : TP} {nr C m c : Nat} {pm : Nat → Int32 × Nat} {s : Nat × List (Nat × Nat)} {MX MY : Mem} (hn : 1700 ≤ n0) (h : RR n0 q b T nr C m pm s MX MY) (hc : c < T.nc) : ∃ D MX' MY', D < 2 ^ (T.nt + 1) ∧ fX11_findHeld n0 (nI c) MX = some (nI D, MX') ∧ fX12_heldBits n0 (nI c) MY = some (nI D, MY') ∧ XF hA MX MX' ∧ YF hP MY MY' ∧ (¬ D = 0 → ∀ v j, v ≤ T.nt → j ≤ min 40 (9999 - m) → gA MX' (83 + v) j = nI (hby T c m v j)) ∧ ∀ v j, v ≤ T.nt → j ≤ min 40 (9999 - m) → gA MY' 42 (41 * v + j) = nI (hby T c m v j) := by
  obtain ⟨h1, h2, h3, h4, h5, h6, h7⟩ := id h
  obtain ⟨o1, o2, o3, _⟩ := h1.2.2.2.1.2.1
  obtain ⟨n, ra, rc, rh, rX, rY⟩ := h6.rows o2
  obtain ⟨Y1, b1, b2, b3⟩ := yh4 (n0 := n0) (b := b) (n := n) (ra := ra) (rc := rc) (rh := rh) hn hc h2.2.1 h2.2.2 h2.1 n0 0 MY (by omega) (by omega) h1.2.2.2.2.1 h4 rY (fun v j hv => by omega)
  have Dl := (Dn7 (f := fun v => b01 (metB T m n c pm ra rc rh v)) (fun d => b01_le _) (T.nt + 1) (by omega)).1
  have hr : ∀ i, i < n → rc i < T.nc := fun i hi => (rX.2.2 i hi).2.1
  obtain ⟨X1, f1, r⟩ := xheld (n0 := n0) (n := n) (ra := ra) (rc := rc) (rh := rh) hn h1.2.2.2.2.1 hc h2.1 h2.2.1 h1.2.2.2.1 h3 h1.2.1 rX
  refine ⟨_, X1, Y1, Dl, ?_, b1, f1, b3, ?_, b2⟩
  · rcases r with ⟨r1, r2, r3⟩ | ⟨r1, j, j1, j2, j3⟩
    · rw [r1]
      congr 3
      refine Dn_congr _ (fun e _ => ?_)
      show b01 _ = b01 _
      by_cases z : soB n ra rc rh c (min 40 (9999 - m)) (hby T c m e) = true
      · rw [z, (met_iff hr).mpr ⟨r2, z⟩]
      · rw [show soB n ra rc rh c (min 40 (9999 - m)) (hby T c m e) = false by simpa using z, show metB T m n c pm ra rc rh e = false by
          by_cases y : metB T m n c pm ra rc rh e = true
          · exact absurd ((met_iff hr).mp y).2 z
          · simpa using y]
    · rw [r1, Dn_zero (f := fun v => b01 (metB T m n c pm ra rc rh v)) _ (fun e _ => by
        show b01 _ = 0
        by_cases y : metB T m n c pm ra rc rh e = true
        · exact absurd (((met_iff hr).mp y).1 j j1 j2) j3
        · exact if_neg y)]
      rfl
  · intro hD
    rcases r with ⟨r1, r2, r3⟩ | ⟨r1, j, j1, j2, j3⟩
    · exact r3
    · exact absurd (Dn_zero (f := fun v => b01 (metB T m n c pm ra rc rh v)) _ (fun e _ => by
        show b01 _ = 0
        by_cases y : metB T m n c pm ra rc rh e = true
        · exact absurd (((met_iff hr).mp y).1 j j1 j2) j3
        · exact if_neg y)) hD
theorem cHeld {n0 : Nat} {x : Int32} {MX MY : Mem} (hn : 1700 ≤ n0) (h : R n0 MX MY) : Cal n0 (fX11_held n0 x MX) (fX12_held n0 x MY) := by
  have h0 := h
  obtain ⟨q, b, T, nr, C, m, pm, s, h⟩ := h
  unfold fX11_held fX12_held
  rcases isCo h.1 x with ⟨c, hc, rfl, e1, e2⟩ | ⟨z, e1, e2⟩
  · obtain ⟨D, X1, Y1, d1, d2, d3, d4, d5, _⟩ := held2 hn h hc
    exact Cal.scr h (eq_b e1 (eq_f (show ¬ (1 : Int32) = 0 by decide) (eq_b d2 rfl))) (eq_b e2 (eq_f (show ¬ (1 : Int32) = 0 by decide) (eq_b d3 rfl))) (hAsc d4) (hPsc d5)
  · exact Cal.same (r := -1) h0 (eq_b e1 (eq_t rfl rfl)) (eq_b e2 (eq_t rfl rfl))
end
section
/-! TELLING ON BOTH SIDES -/
def alB (D : Nat) (h : Nat → Nat) (a : Nat) : Nat → Bool := fun b => decide (D / 2 ^ a % 2 = 1 ∧ D / 2 ^ b % 2 = 1 ∧ h a = h b)
def mx (D : Nat) (h : Nat → Nat) (N : Nat) : Nat → Nat
  | 0 => 0
  | a + 1 => max (mx D h N a) (cnt (alB D h a) N)
theorem mx_le (D : Nat) (h : Nat → Nat) (N : Nat) : ∀ a, mx D h N a ≤ N
  | 0 => Nat.zero_le _
  | a + 1 => by
    have := mx_le D h N a
    have := cnt_le (alB D h a) N
    show max _ _ ≤ N
    omega
theorem bit_hi {D n e : Nat} (hD : D < 2 ^ n) (he : n ≤ e) : ¬ D / 2 ^ e % 2 = 1 := by
  have : 2 ^ n ≤ 2 ^ e := Nat.pow_le_pow_right (by decide) he
  rw [Nat.div_eq_of_lt (by omega)]
  decide
theorem cnt_ext {P : Nat → Bool} {n : Nat} : ∀ k, (∀ i, n ≤ i → P i = false) → cnt P (n + k) = cnt P n
  | 0, _ => rfl
  | k + 1, h => by
    show cnt P (n + k) + b01 (P (n + k)) = _
    rw [cnt_ext k h, h (n + k) (by omega)]
    rfl
theorem cnt_none {P : Nat → Bool} : ∀ n, (∀ i, i < n → P i = false) → cnt P n = 0
  | 0, _ => rfl
  | n + 1, h => by
    show cnt P n + b01 (P n) = 0
    rw [cnt_none n (fun i hi => h i (by omega)), h n (by omega)]
    rfl
theorem mx_7 {D n : Nat} {h : Nat → Nat} (hn : n ≤ 7) (hD : D < 2 ^ n) : mx D h 7 7 = mx D h n n := by
  have e1 : ∀ a, cnt (alB D h a) 7 = cnt (alB D h a) n := fun a => by
    rw [show 7 = n + (7 - n) by omega]
    exact cnt_ext _ (fun i hi => decide_eq_false (fun z => bit_hi hD hi z.2.1))
  have e2 : ∀ a, mx D h 7 a = mx D h n a := fun a => by
    induction a with
    | zero => rfl
    | succ a ih =>
      show max (mx D h 7 a) (cnt (alB D h a) 7) = max (mx D h n a) (cnt (alB D h a) n)
      rw [ih, e1]
  rw [e2]
  have e3 : ∀ k, mx D h n (n + k) = mx D h n n := fun k => by
    induction k with
    | zero => rfl
    | succ k ih =>
      show max (mx D h n (n + k)) (cnt (alB D h (n + k)) n) = _
      rw [ih, cnt_none (P := alB D h (n + k)) n (fun i _ => decide_eq_false (fun z => bit_hi hD (by omega) z.1)), Nat.max_eq_left (Nat.zero_le _)]
  rw [show 7 = n + (7 - n) by omega]
  exact e3 _
abbrev xm30 (n0 : Nat) (k17 : Int32 → Int32 → Int32 → Int32 → Mem → Option (Int32 × Mem)) : Nat → Int32 → Int32 → Int32 → Int32 → Int32 → Int32 → Mem → Option (Int32 × Mem) := loopN (bX5_mostLeft_30 n0 k17) (fun _ _ _ _ _ _ _ => none)
theorem xml30 {n0 D k nt a : Nat} {h : Nat → Nat} {x3 : Int32} {k17 : Int32 → Int32 → Int32 → Int32 → Mem → Option (Int32 × Mem)} {M : Mem} (hnt : nt ≤ 6) (hD : D < 2 ^ (nt + 1)) (hk : k ≤ 40) (ha : a < 7) (hB : ∀ v, v ≤ nt → gA M (83 + v) k = nI (h v) ∧ h v ≤ 23) : ∀ w o, o ≤ 7 → 7 < w + o → xm30 n0 k17 w (nI D) (nI k) x3 (nI a) (nI (cnt (alB D h a) o)) (nI o) M = k17 (nI D) (nI k) (imax x3 (nI (cnt (alB D h a) 7))) (nI (a + 1)) M
  | 0, o, ho, hw => by omega
  | w + 1, o, ho, hw => by
    show bX5_mostLeft_30 n0 k17 (xm30 n0 k17 w) (nI D) (nI k) x3 (nI a) _ (nI o) M = _
    have D128 : D < 128 := Nat.lt_of_lt_of_le hD (p128 (by omega))
    unfold bX5_mostLeft_30
    by_cases g : o = 7
    · rw [g]
      refine eq_t (by decide) (eq_n ?_)
      rw [show nI a + 1 = nI (a + 1) from nI_add a 1]
    · have k1 : nI o + 1 = nI (o + 1) := nI_add o 1
      have step : cnt (alB D h a) (o + 1) = cnt (alB D h a) o + b01 (alB D h a o) := rfl
      have ih := xml30 (n0 := n0) (x3 := x3) (k17 := k17) hnt hD hk ha hB w (o + 1) (by omega) (by omega)
      have no : alB D h a o = false → fX5_mostLeft_61 n0 k17 (xm30 n0 k17 w) (nI D) (nI k) x3 (nI a) (nI (cnt (alB D h a) o)) (nI o) M = k17 (nI D) (nI k) (imax x3 (nI (cnt (alB D h a) 7))) (nI (a + 1)) M := fun z => by
        unfold fX5_mostLeft_61 fX5_mostLeft_62 fX5_mostLeft_93
        rw [step, z] at ih
        rw [k1]
        exact eq_t rfl ih
      have st : ¬ (7 : Int32) ≤ nI o := nI_ge (b := 7) (by omega) (by decide)
      by_cases z1 : D / 2 ^ a % 2 = 1
      · by_cases z2 : D / 2 ^ o % 2 = 1
        · have la : a ≤ nt := by
            rcases Nat.lt_or_ge nt a with y | y
            · exact absurd z1 (bit_hi hD y)
            · exact y
          have lo : o ≤ nt := by
            rcases Nat.lt_or_ge nt o with y | y
            · exact absurd z2 (bit_hi hD y)
            · exact y
          have ca : (nI a).toNatClampNeg = a := nI_clamp (by omega)
          have co : (nI o).toNatClampNeg = o := nI_clamp (by omega)
          have ck : (nI k).toNatClampNeg = k := nI_clamp (by omega)
          obtain ⟨h1, l1⟩ := hB a la
          obtain ⟨h2, l2⟩ := hB o lo
          refine eq_f st (eq_t ((b7_has D D128 a ha).mpr z1) (eq_t ((b7_has D D128 o (by omega)).mpr z2) ?_))
          unfold fX5_mostLeft_62
          simp only [ca, co, ck]
          refine eq_f (by decide) (eq_f (nI_in ha (by decide)) (eq_f (by rw [ln83 a ha]; exact nI_in (by omega) (by decide)) (eq_f (nI_in (by omega) (by decide)) (eq_f (by rw [ln83 o (by omega)]; exact nI_in (by omega) (by decide)) ?_))))
          unfold fX5_mostLeft_93
          rw [k1]
          by_cases y : h a = h o
          · refine eq_t (by rw [h1, h2, y]) ?_
            rw [step, show alB D h a o = true from decide_eq_true ⟨z1, z2, y⟩] at ih
            rw [show nI (cnt (alB D h a) o) + 1 = nI (cnt (alB D h a) o + 1) from nI_add _ 1]
            exact ih
          · refine eq_f (by rw [h1, h2]; exact fun u => y ((nI_eq (by omega) (by omega)).mp u)) ?_
            rw [step, show alB D h a o = false from decide_eq_false (fun u => y u.2.2)] at ih
            exact ih
        · exact eq_f st (eq_t ((b7_has D D128 a ha).mpr z1) (eq_f (fun u => z2 ((b7_has D D128 o (by omega)).mp u)) (no (decide_eq_false (fun u => z2 u.2.1)))))
      · exact eq_f st (eq_f (fun u => z1 ((b7_has D D128 a ha).mp u)) (no (decide_eq_false (fun u => z1 u.1))))
abbrev xm17 (n0 : Nat) : Nat → Int32 → Int32 → Int32 → Int32 → Mem → Option (Int32 × Mem) := loopN (bX5_mostLeft_17 n0) (fun _ _ _ _ _ => none)
theorem xml17 {n0 D k nt : Nat} {h : Nat → Nat} {M : Mem} (hn : 1700 ≤ n0) (hnt : nt ≤ 6) (hD : D < 2 ^ (nt + 1)) (hk : k ≤ 40) (hB : ∀ v, v ≤ nt → gA M (83 + v) k = nI (h v) ∧ h v ≤ 23) : ∀ w a, a ≤ 7 → 7 < w + a → xm17 n0 w (nI D) (nI k) (nI (mx D h 7 a)) (nI a) M = some (nI (mx D h 7 7), M)
  | 0, a, ha, hw => by omega
  | w + 1, a, ha, hw => by
    show bX5_mostLeft_17 n0 (xm17 n0 w) (nI D) (nI k) (nI (mx D h 7 a)) (nI a) M = _
    unfold bX5_mostLeft_17
    by_cases g : a = 7
    · rw [g]
      exact eq_t (by decide) rfl
    · refine eq_f (nI_ge (b := 7) (by omega) (by decide)) ?_
      have e := xml30 (n0 := n0) (x3 := nI (mx D h 7 a)) (k17 := xm17 n0 w) (M := M) hnt hD hk (show a < 7 by omega) hB n0 0 (by omega) (by omega)
      have l1 := mx_le D h 7 a
      have l2 := cnt_le (alB D h a) 7
      rw [imax_nI (by omega) (by omega)] at e
      exact e.trans (xml17 hn hnt hD hk hB w (a + 1) (by omega) (by omega))
theorem xml {n0 D k nt : Nat} {h : Nat → Nat} {M : Mem} (hn : 1700 ≤ n0) (hnt : nt ≤ 6) (hD : D < 2 ^ (nt + 1)) (hk : k ≤ 40) (hB : ∀ v, v ≤ nt → gA M (83 + v) k = nI (h v) ∧ h v ≤ 23) : fX5_mostLeft n0 (nI D) (nI k) M = some (nI (mx D h (nt + 1) (nt + 1)), M) := by
  unfold fX5_mostLeft
  rw [← mx_7 (n := nt + 1) (by omega) hD]
  exact eq_f (nI_nn (by omega)) (eq_t (nI_le (b := 40) hk (by decide)) (xml17 hn hnt hD hk hB n0 0 (by omega) (by omega)))
theorem y7has2 {n0 D d : Nat} {M : Mem} (hD : D < 128) (hd : d < 7) : fX12_has2 n0 (nI D) (nI d) M = some (bI (D / 2 ^ d % 2 = 1), M) := by
  unfold fX12_has2
  by_cases g : D / 2 ^ d % 2 = 1
  · rw [bI_t g]; exact eq_t ((b7_has D hD d hd).mpr g) rfl
  · rw [bI_f g]; exact eq_f (fun z => g ((b7_has D hD d hd).mp z)) rfl
abbrev yt78 (n0 : Nat) (k36 : Int32 → Int32 → Int32 → Int32 → Int32 → Mem → Option (Int32 × Mem)) (k58 : Int32 → Int32 → Int32 → Int32 → Int32 → Int32 → Int32 → Mem → Option (Int32 × Mem)) : Nat → Int32 → Int32 → Int32 → Int32 → Int32 → Int32 → Int32 → Int32 → Int32 → Mem → Option (Int32 × Mem) := loopN (bX12_tells_78 n0 k36 k58) (fun _ _ _ _ _ _ _ _ _ _ => none)
theorem yml78 {n0 b D k nt a : Nat} {h : Nat → Nat} {x2 x4 x5 : Int32} {k36 : Int32 → Int32 → Int32 → Int32 → Int32 → Mem → Option (Int32 × Mem)} {k58 : Int32 → Int32 → Int32 → Int32 → Int32 → Int32 → Int32 → Mem → Option (Int32 × Mem)} {M : Mem} (h13 : gI M 13 = nI b) (hb : b ≤ 1) (y2 : gA M 2 b = nI nt) (hnt : nt ≤ 6) (hD : D < 2 ^ (nt + 1)) (hk : k ≤ 40) (ha : a ≤ nt) (hB : ∀ v, v ≤ nt → gA M 42 (41 * v + k) = nI (h v) ∧ h v ≤ 23) : ∀ w o, o ≤ nt + 1 → nt + 1 < w + o → yt78 n0 k36 k58 w x2 (nI D) x4 x5 (nI k) (nI (mx D h (nt + 1) a)) (nI a) (nI (cnt (alB D h a) o)) (nI o) M = k58 x2 (nI D) x4 x5 (nI k) (nI (mx D h (nt + 1) (a + 1))) (nI (a + 1)) M
  | 0, o, ho, hw => by omega
  | w + 1, o, ho, hw => by
    show bX12_tells_78 n0 k36 k58 (yt78 n0 k36 k58 w) x2 (nI D) x4 x5 (nI k) (nI (mx D h (nt + 1) a)) (nI a) _ (nI o) M = _
    have D128 : D < 128 := Nat.lt_of_lt_of_le hD (p128 (by omega))
    have o13 : ¬ oob (gI M 13) 2 := by rw [h13]; exact nI_in (by omega) (by decide)
    have yq : gA M 2 (gI M 13).toNatClampNeg = nI nt := by rw [h13, nI_clamp (by omega)]; exact y2
    unfold bX12_tells_78
    by_cases g : o = nt + 1
    · rw [g]
      have l1 := mx_le D h (nt + 1) a
      have l2 := cnt_le (alB D h a) (nt + 1)
      have e : mx D h (nt + 1) (a + 1) = max (mx D h (nt + 1) a) (cnt (alB D h a) (nt + 1)) := rfl
      refine eq_f o13 (eq_t (by rw [yq]; exact nI_lt (by omega) (by omega)) ?_)
      unfold fX12_tells_169
      rw [show nI a + 1 = nI (a + 1) from nI_add a 1, e]
      by_cases z : cnt (alB D h a) (nt + 1) ≤ mx D h (nt + 1) a
      · rw [Nat.max_eq_left z]
        exact eq_t (nI_le z (by omega)) rfl
      · rw [Nat.max_eq_right (by omega)]
        exact eq_f (nI_ge (by omega) (by omega)) rfl
    · have k1 : nI o + 1 = nI (o + 1) := nI_add o 1
      have step : cnt (alB D h a) (o + 1) = cnt (alB D h a) o + b01 (alB D h a o) := rfl
      have ih := yml78 (n0 := n0) (x2 := x2) (x4 := x4) (x5 := x5) (k36 := k36) (k58 := k58) h13 hb y2 hnt hD hk ha hB w (o + 1) (by omega) (by omega)
      have go : ∀ u1, u1 = nI (b01 (alB D h a o)) → fX12_tells_146 n0 k36 k58 (yt78 n0 k36 k58 w) x2 (nI D) x4 x5 (nI k) (nI (mx D h (nt + 1) a)) (nI a) (nI o) (nI (cnt (alB D h a) o)) u1 M = k58 x2 (nI D) x4 x5 (nI k) (nI (mx D h (nt + 1) (a + 1))) (nI (a + 1)) M := fun u1 e => by
        unfold fX12_tells_146
        refine eq_e (v' := nI (cnt (alB D h a) (o + 1))) (by rw [e, nI_add, step]) ?_
        rw [k1]
        exact ih
      have no : alB D h a o = false → fX12_tells_145 n0 k36 k58 (yt78 n0 k36 k58 w) x2 (nI D) x4 x5 (nI k) (nI (mx D h (nt + 1) a)) (nI a) (nI o) (nI (cnt (alB D h a) o)) M = k58 x2 (nI D) x4 x5 (nI k) (nI (mx D h (nt + 1) (a + 1))) (nI (a + 1)) M := fun z => by
        unfold fX12_tells_145
        exact go 0 (by rw [z]; rfl)
      have st : ¬ gA M 2 (gI M 13).toNatClampNeg < nI o := by rw [yq]; exact fun u => by have := (nI_ltI (by omega) (by omega)).mp u; omega
      by_cases z1 : D / 2 ^ a % 2 = 1
      · by_cases z2 : D / 2 ^ o % 2 = 1
        · obtain ⟨h1, l1⟩ := hB a ha
          obtain ⟨h2, l2⟩ := hB o (by omega)
          refine eq_f o13 (eq_f st (eq_b (y7has2 D128 (by omega)) (eq_f (show ¬ bI (D / 2 ^ a % 2 = 1) = 0 by rw [bI_t z1]; decide) (eq_b (y7has2 D128 (by omega)) (eq_f (show ¬ bI (D / 2 ^ o % 2 = 1) = 0 by rw [bI_t z2]; decide) ?_)))))
          have ia : (nI (41 * a + k)).toNatClampNeg = 41 * a + k := nI_clamp (by omega)
          have io : (nI (41 * o + k)).toNatClampNeg = 41 * o + k := nI_clamp (by omega)
          simp only [y41Ix, ia, io, h1, h2]
          refine eq_f (nI_in (by omega) (by decide)) (eq_f (nI_in (by omega) (by decide)) ?_)
          by_cases y : h a = h o
          · exact eq_t (congrArg nI y) (go 1 (by rw [show alB D h a o = true from decide_eq_true ⟨z1, z2, y⟩]; rfl))
          · exact eq_f (fun u => y ((nI_eq (by omega) (by omega)).mp u)) (no (decide_eq_false (fun u => y u.2.2)))
        · exact eq_f o13 (eq_f st (eq_b (y7has2 D128 (by omega)) (eq_f (show ¬ bI (D / 2 ^ a % 2 = 1) = 0 by rw [bI_t z1]; decide) (eq_b (y7has2 D128 (by omega)) (eq_t (show bI (D / 2 ^ o % 2 = 1) = 0 from bI_f z2) (no (decide_eq_false (fun u => z2 u.2.1))))))))
      · exact eq_f o13 (eq_f st (eq_b (y7has2 D128 (by omega)) (eq_t (show bI (D / 2 ^ a % 2 = 1) = 0 from bI_f z1) (no (decide_eq_false (fun u => z1 u.1))))))
abbrev yt58 (n0 : Nat) (k36 : Int32 → Int32 → Int32 → Int32 → Int32 → Mem → Option (Int32 × Mem)) : Nat → Int32 → Int32 → Int32 → Int32 → Int32 → Int32 → Int32 → Mem → Option (Int32 × Mem) := loopN (bX12_tells_58 n0 k36) (fun _ _ _ _ _ _ _ _ => none)
theorem yml58 {n0 b D k nt : Nat} {h : Nat → Nat} {x2 x4 x5 : Int32} {k36 : Int32 → Int32 → Int32 → Int32 → Int32 → Mem → Option (Int32 × Mem)} {M : Mem} (hn : 1700 ≤ n0) (h13 : gI M 13 = nI b) (hb : b ≤ 1) (y2 : gA M 2 b = nI nt) (hnt : nt ≤ 6) (hD : D < 2 ^ (nt + 1)) (hk : k ≤ 40) (hB : ∀ v, v ≤ nt → gA M 42 (41 * v + k) = nI (h v) ∧ h v ≤ 23) : ∀ w a, a ≤ nt + 1 → nt + 1 < w + a → yt58 n0 k36 w x2 (nI D) x4 x5 (nI k) (nI (mx D h (nt + 1) a)) (nI a) M = if nI (mx D h (nt + 1) (nt + 1)) < x5 then k36 x2 (nI D) (nI k) (nI (mx D h (nt + 1) (nt + 1))) (nI (k + 1)) M else k36 x2 (nI D) x4 x5 (nI (k + 1)) M
  | 0, a, ha, hw => by omega
  | w + 1, a, ha, hw => by
    show bX12_tells_58 n0 k36 (yt58 n0 k36 w) x2 (nI D) x4 x5 (nI k) (nI (mx D h (nt + 1) a)) (nI a) M = _
    have o13 : ¬ oob (gI M 13) 2 := by rw [h13]; exact nI_in (by omega) (by decide)
    have yq : gA M 2 (gI M 13).toNatClampNeg = nI nt := by rw [h13, nI_clamp (by omega)]; exact y2
    unfold bX12_tells_58
    by_cases g : a = nt + 1
    · rw [g]
      refine eq_f o13 (eq_t (by rw [yq]; exact nI_lt (by omega) (by omega)) ?_)
      unfold fX12_tells_195
      rw [show nI k + 1 = nI (k + 1) from nI_add k 1]
    · refine eq_f o13 (eq_f (by rw [yq]; exact fun u => by have := (nI_ltI (by omega) (by omega)).mp u; omega) ?_)
      have e := yml78 (n0 := n0) (x2 := x2) (x4 := x4) (x5 := x5) (k36 := k36) (k58 := yt58 n0 k36 w) h13 hb y2 hnt hD hk (show a ≤ nt by omega) hB n0 0 (by omega) (by omega)
      exact e.trans (yml58 hn h13 hb y2 hnt hD hk hB w (a + 1) (by omega) (by omega))
abbrev xt69 (n0 : Nat) : Nat → Int32 → Int32 → Int32 → Int32 → Int32 → Int32 → Mem → Option (Int32 × Mem) := loopN (bX11_tells_69 n0) (fun _ _ _ _ _ _ _ => none)
abbrev yt36 (n0 : Nat) : Nat → Int32 → Int32 → Int32 → Int32 → Int32 → Mem → Option (Int32 × Mem) := loopN (bX12_tells_36 n0) (fun _ _ _ _ _ _ => none)
theorem telL {n0 b D nt m : Nat} {hh : Nat → Nat → Nat} {x2 : Int32} {MX MY : Mem} (hn : 1700 ≤ n0) (h13 : gI MY 13 = nI b) (hb : b ≤ 1) (y2 : gA MY 2 b = nI nt) (hnt : nt ≤ 6) (hD : D < 2 ^ (nt + 1)) (hD0 : ¬ D = 0) (hm : m ≤ 9999) (h28 : gA MY 28 0 = nI m) (hX : ∀ v j, v ≤ nt → j ≤ min 40 (9999 - m) → gA MX (83 + v) j = nI (hh v j) ∧ hh v j ≤ 23) (hY : ∀ v j, v ≤ nt → j ≤ min 40 (9999 - m) → gA MY 42 (41 * v + j) = nI (hh v j) ∧ hh v j ≤ 23) : ∀ w k be le, k ≤ min 40 (9999 - m) + 1 → min 40 (9999 - m) + 1 < w + k → be ≤ 40 → le ≤ 7 → ∃ r, xt69 n0 w x2 (nI D) (nI (min 40 (9999 - m))) (nI be) (nI le) (nI k) MX = some (r, MX) ∧ yt36 n0 w x2 (nI D) (nI be) (nI le) (nI k) MY = some (r, MY)
  | 0, k, _, _, hk, hw, _, _ => by omega
  | w + 1, k, be, le, hk, hw, hbe, hle => by
    show ∃ r, bX11_tells_69 n0 (xt69 n0 w) x2 (nI D) (nI (min 40 (9999 - m))) (nI be) (nI le) (nI k) MX = _ ∧ bX12_tells_36 n0 (yt36 n0 w) x2 (nI D) (nI be) (nI le) (nI k) MY = _
    have D128 : D < 128 := Nat.lt_of_lt_of_le hD (p128 (by omega))
    have nm : ¬ nI be = -1 := nI_m1 (by omega)
    unfold bX11_tells_69 bX12_tells_36
    by_cases g : k = min 40 (9999 - m) + 1
    · have a0 := yahF (n0 := n0) (lo := 0) (hi := 40) (k := k) h28 hm (by decide) (by decide) (by omega) (by omega)
      have x0 : nI (min 40 (9999 - m)) < nI k := nI_lt (by omega) (by omega)
      unfold fX12_tells_201
      by_cases z : x2 = 0
      · exact ⟨nI be, eq_t x0 (eq_t z rfl), eq_b a0 (eq_t rfl (eq_f nm (eq_t z rfl)))⟩
      · exact ⟨nI le, eq_t x0 (eq_f z rfl), eq_b a0 (eq_t rfl (eq_f nm (eq_f z rfl)))⟩
    · have a1 := yahT (n0 := n0) (lo := 0) (hi := 40) (k := k) h28 (by omega) (by omega) (by decide) (by omega)
      have e1 := xml (n0 := n0) (h := fun v => hh v k) hn hnt hD (show k ≤ 40 by omega) (fun v hv => hX v k hv (by omega))
      have e2 := yml58 (n0 := n0) (h := fun v => hh v k) (x2 := x2) (x4 := nI be) (x5 := nI le) (k36 := yt36 n0 w) hn h13 hb y2 hnt hD (show k ≤ 40 by omega) (fun v hv => hY v k hv (by omega)) n0 0 (by omega) (by omega)
      have l1 := mx_le D (fun v => hh v k) (nt + 1) (nt + 1)
      have st : ¬ nI (min 40 (9999 - m)) < nI k := fun u => by have := (nI_ltI (by omega) (by omega)).mp u; omega
      have k1 : nI k + 1 = nI (k + 1) := nI_add k 1
      by_cases z : mx D (fun v => hh v k) (nt + 1) (nt + 1) < le
      · obtain ⟨r, r1, r2⟩ := telL (x2 := x2) hn h13 hb y2 hnt hD hD0 hm h28 hX hY w (k + 1) k (mx D (fun v => hh v k) (nt + 1) (nt + 1)) (by omega) (by omega) (by omega) (by omega)
        refine ⟨r, eq_f st (eq_b e1 (eq_f (nI_ge z (by omega)) ?_)), eq_b a1 (eq_f (show ¬ (1 : Int32) = 0 by decide) (eq_f (nI_ne0 (by omega) (by omega)) (Eq.trans e2 ?_)))⟩
        · unfold fX11_tells_103
          rw [k1]; exact r1
        · rw [if_pos (nI_lt z (by omega))]
          exact r2
      · obtain ⟨r, r1, r2⟩ := telL (x2 := x2) hn h13 hb y2 hnt hD hD0 hm h28 hX hY w (k + 1) be le (by omega) (by omega) hbe hle
        refine ⟨r, eq_f st (eq_b e1 (eq_t (nI_le (by omega) (by omega)) ?_)), eq_b a1 (eq_f (show ¬ (1 : Int32) = 0 by decide) (eq_f (nI_ne0 (by omega) (by omega)) (Eq.trans e2 ?_)))⟩
        · unfold fX11_tells_103
          rw [k1]; exact r1
        · rw [if_neg (fun u => by have := (nI_ltI (by omega) (by omega)).mp u; omega)]
          exact r2
theorem cTells {n0 : Nat} {x y : Int32} {MX MY : Mem} (hn : 1700 ≤ n0) (h : R n0 MX MY) : Cal n0 (fX11_tells n0 x y MX) (fX12_tells n0 x y MY) := by
  have h0 := h
  obtain ⟨q, b, T, nr, C, m, pm, s, h⟩ := h
  obtain ⟨h1, h2, h3, h4, _⟩ := id h
  obtain ⟨o1, o2, o3, _⟩ := h1.2.2.2.1.2.1
  have hm := h2.1
  unfold fX11_tells fX12_tells
  rcases isCo h1 x with ⟨c, hc, rfl, e1, e2⟩ | ⟨z, e1, e2⟩
  · rcases yisc (n0 := n0) 2 (x := y) (hi := 1) (by decide) (by decide) with ⟨k, hk, rfl, e⟩ | ⟨z, e⟩
    · obtain ⟨D, X1, Y1, d1, d2, d3, d4, d5, d6, d7⟩ := held2 hn h hc
      have D128 : D < 128 := Nat.lt_of_lt_of_le d1 (p128 (by omega))
      have YT1 := h1.2.2.2.2.1.yf d5 hP28
      have m28 : gA Y1 28 0 = nI m := m28f h4.1.1 d5 hPn
      have xh : ∀ r, (if nI D = 0 then some ((-1 : Int32), X1) else bnd (imin (40 : Int32) ((9999 : Int32) - (gI X1 1281))) fun x4_50 => (fX5_mostLeft n0 (nI D) (0 : Int32) X1).bind fun z61 => fX11_tells_69 n0 (nI k) (nI D) x4_50 (0 : Int32) z61.1 (1 : Int32) z61.2) = r → ((fX9_isCorner n0 (gR MX 1) (nI c) MX).bind fun z5 => if z5.1 = 0 then some ((-1 : Int32), z5.2) else if nI k < 0 then some ((-1 : Int32), z5.2) else if nI k ≤ (1 : Int32) then (fX11_findHeld n0 (nI c) z5.2).bind fun z24 => if z24.1 = 0 then some ((-1 : Int32), z24.2) else bnd (imin (40 : Int32) ((9999 : Int32) - (gI z24.2 1281))) fun x4_50 => (fX5_mostLeft n0 z24.1 (0 : Int32) z24.2).bind fun z61 => fX11_tells_69 n0 (nI k) z24.1 x4_50 (0 : Int32) z61.1 (1 : Int32) z61.2 else some ((-1 : Int32), z5.2)) = r := fun r hr => eq_b e1 (eq_f (show ¬ (1 : Int32) = 0 by decide) (eq_f (nI_nn (by omega)) (eq_t (nI_le (b := 1) (by omega) (by decide)) (eq_b d2 hr))))
      have yh : ∀ r, fX12_tells_36 n0 (nI k) (nI D) (-1) 100000000 0 Y1 = r → ((fX12_isCorner n0 (nI c) MY).bind fun z2 => if z2.1 = 0 then some ((-1 : Int32), z2.2) else (fX12_is n0 (nI k) (0 : Int32) (1 : Int32) z2.2).bind fun z11 => if z11.1 = 0 then some ((-1 : Int32), z11.2) else (fX12_heldBits n0 (nI c) z11.2).bind fun z21 => fX12_tells_36 n0 (nI k) z21.1 (-1 : Int32) (100000000 : Int32) (0 : Int32) z21.2) = r := fun r hr => eq_b e2 (eq_f (show ¬ (1 : Int32) = 0 by decide) (eq_b (e MY) (eq_f (show ¬ (1 : Int32) = 0 by decide) (eq_b d3 hr))))
      obtain ⟨w, rfl⟩ : ∃ w, n0 = w + 1 := ⟨n0 - 1, by omega⟩
      have a1 := yahT (n0 := w + 1) (lo := 0) (hi := 40) (k := 0) m28 (by omega) (by omega) (by decide) (by omega)
      by_cases g : D = 0
      · refine Cal.scr (r := -1) h (xh _ (eq_t (by rw [g]; rfl) rfl)) (yh _ ?_) (hAsc d4) (hPsc d5)
        show bX12_tells_36 (w + 1) (yt36 (w + 1) w) (nI k) (nI D) (-1) 100000000 0 Y1 = _
        unfold bX12_tells_36
        refine eq_b a1 (eq_f (show ¬ (1 : Int32) = 0 by decide) (eq_t (by rw [g]; rfl) ?_))
        unfold fX12_tells_201
        exact eq_t rfl rfl
      · have hX : ∀ v j, v ≤ T.nt → j ≤ min 40 (9999 - m) → gA X1 (83 + v) j = nI (hby T c m v j) ∧ hby T c m v j ≤ 23 := fun v j hv hj => ⟨d6 g v j hv hj, hrs_le h1.2.2.2.2.1 hc ⟨thI_ok hv, Nat.zero_le _⟩ (by omega)⟩
        have hYY : ∀ v j, v ≤ T.nt → j ≤ min 40 (9999 - m) → gA Y1 42 (41 * v + j) = nI (hby T c m v j) ∧ hby T c m v j ≤ 23 := fun v j hv hj => ⟨d7 v j hv hj, (hX v j hv hj).2⟩
        have e3 := xml (n0 := w + 1) (h := fun v => hby T c m v 0) hn o1 d1 (show 0 ≤ 40 by decide) (fun v hv => hX v 0 hv (by omega))
        have e4 := yml58 (n0 := w + 1) (h := fun v => hby T c m v 0) (x2 := nI k) (x4 := -1) (x5 := 100000000) (k36 := yt36 (w + 1) w) hn YT1.2.2.2.1 YT1.2.2.1 YT1.2.2.2.2.1 o1 d1 (show 0 ≤ 40 by decide) (fun v hv => hYY v 0 hv (by omega)) (w + 1) 0 (by omega) (by omega)
        have l1 := mx_le D (fun v => hby T c m v 0) (T.nt + 1) (T.nt + 1)
        obtain ⟨r, r1, r2⟩ := telL (n0 := w + 1) (b := b) (x2 := nI k) (hh := hby T c m) hn YT1.2.2.2.1 YT1.2.2.1 YT1.2.2.2.2.1 o1 d1 g hm m28 hX hYY w 1 0 (mx D (fun v => hby T c m v 0) (T.nt + 1) (T.nt + 1)) (by omega) (by omega) (by omega) (by omega)
        obtain ⟨r', r3, r4⟩ := telL (n0 := w + 1) (b := b) (x2 := nI k) (hh := hby T c m) hn YT1.2.2.2.1 YT1.2.2.1 YT1.2.2.2.2.1 o1 d1 g hm m28 hX hYY (w + 1) 1 0 (mx D (fun v => hby T c m v 0) (T.nt + 1) (T.nt + 1)) (by omega) (by omega) (by omega) (by omega)
        have i1281 : gI X1 1281 = nI m := (d4.2.2.2.2 1281 (by decide)).trans h3.2.2.1
        -- the same answer with one more or less of fuel
        have mono : ∀ w' k' be le, k' ≤ min 40 (9999 - m) + 1 → min 40 (9999 - m) + 1 < w' + k' → xt69 (w + 1) (w' + 1) (nI k) (nI D) (nI (min 40 (9999 - m))) (nI be) (nI le) (nI k') X1 = xt69 (w + 1) w' (nI k) (nI D) (nI (min 40 (9999 - m))) (nI be) (nI le) (nI k') X1 := fun w' => by
          induction w' with
          | zero => intro k' be le h1' h2'; omega
          | succ w' ih =>
            intro k' be le h1' h2'
            show bX11_tells_69 (w + 1) (xt69 (w + 1) (w' + 1)) (nI k) (nI D) (nI (min 40 (9999 - m))) (nI be) (nI le) (nI k') X1 = bX11_tells_69 (w + 1) (xt69 (w + 1) w') (nI k) (nI D) (nI (min 40 (9999 - m))) (nI be) (nI le) (nI k') X1
            by_cases z : k' = min 40 (9999 - m) + 1
            · unfold bX11_tells_69
              rw [if_pos (nI_lt (by omega) (by omega)), if_pos (nI_lt (by omega) (by omega))]
            · have e5 := xml (n0 := w + 1) (h := fun v => hby T c m v k') hn o1 d1 (show k' ≤ 40 by omega) (fun v hv => hX v k' hv (by omega))
              have k1 : nI k' + 1 = nI (k' + 1) := nI_add k' 1
              unfold bX11_tells_69
              rw [e5]
              show (if _ then _ else (if nI le ≤ nI _ then fX11_tells_103 _ _ _ _ _ _ _ _ _ else fX11_tells_103 _ _ _ _ _ _ _ _ _)) = (if _ then _ else (if nI le ≤ nI _ then fX11_tells_103 _ _ _ _ _ _ _ _ _ else fX11_tells_103 _ _ _ _ _ _ _ _ _))
              unfold fX11_tells_103
              rw [k1, ih (k' + 1) be le (by omega) (by omega), ih (k' + 1) k' _ (by omega) (by omega)]
        have rr : r' = r := by
          have := (mono w 1 0 (mx D (fun v => hby T c m v 0) (T.nt + 1) (T.nt + 1)) (by omega) (by omega)).symm.trans r3
          exact ((Prod.mk.inj (Option.some.inj (r1.symm.trans this))).1).symm
        refine Cal.scr (r := r) h (xh _ (eq_f (nI_ne0 (by omega) (by omega)) (eq_e (v' := nI (min 40 (9999 - m))) ?_ (eq_b e3 ?_)))) (yh _ ?_) (hAsc d4) (hPsc d5)
        · rw [i1281, show (9999 : Int32) - nI m = nI (9999 - m) from nI_subN hm, show (40 : Int32) = nI 40 from rfl, imin_nI (by decide) (by omega)]
        · rw [← rr]; exact r3
        · show bX12_tells_36 (w + 1) (yt36 (w + 1) w) (nI k) (nI D) (-1) 100000000 0 Y1 = _
          unfold bX12_tells_36
          refine eq_b a1 (eq_f (show ¬ (1 : Int32) = 0 by decide) (eq_f (nI_ne0 (by omega) (by omega)) (Eq.trans e4 ?_)))
          exact eq_t (nI_lt (b := 100000000) (by omega) (by decide)) r2
    · refine Cal.same (r := -1) h0 (eq_b e1 (eq_f (show ¬ (1 : Int32) = 0 by decide) ?_)) (eq_b e2 (eq_f (show ¬ (1 : Int32) = 0 by decide) (eq_b (e MY) (eq_t rfl rfl))))
      by_cases g2 : y < 0
      · exact eq_t g2 rfl
      · refine eq_f g2 (eq_f (fun u => ?_) rfl)
        have z2 := z.resolve_left g2
        rw [i_le] at z2 u
        have a1 : (nI 2).toInt = 2 := rfl
        have a2 : (1 : Int32).toInt = 1 := rfl
        omega
  · exact Cal.same (r := -1) h0 (eq_b e1 (eq_t rfl rfl)) (eq_b e2 (eq_t rfl rfl))
end
