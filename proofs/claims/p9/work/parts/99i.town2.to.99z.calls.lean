section
/-! A TOWN ON BOTH SIDES: the call -/
theorem zbit (e : Nat) : nI (0 / 2 ^ e % 2) = 0 := by rw [Nat.zero_div]; rfl
theorem townGood {n0 q b L sx nt nc nd nr C j x0 f : Nat} {MX MY X1 Y1 : Mem} (hn : 1700 ≤ n0) (hq : q = 31 ∨ q = 47) (hb : b ≤ 1) (hR1 : gR MX 1 = 78 - q) (hR2 : gR MX 2 = q) (ho : RO MX MY) (hx0 : x0 < 20) (hf : f < 20) (u1 : gI MX 2049 = nI x0) (u2 : gI MY 53 = nI f)
    (k1 : fX4_read n0 q MX = some (1, X1)) (k2 : fX12_town n0 MY = fX12_town_196 n0 (nI j) Y1) (k4 : Rd L sx q b nt nc nd nr C X1 Y1) (k5 : gI X1 (128 * q) = nI j) (fX : FX4 q MX X1) (fY : FY4 b MY Y1) (y1 : gI Y1 1 = 0) : Cal n0 (fX11_town n0 MX) (fX12_town n0 MY) := by
  obtain ⟨⟨_, _, x391, x392, y8, y9⟩, ⟨_, _, at3, _⟩, hTR, _, _⟩ := k4
  have g1 : gR X1 1 = 78 - q := (fX.2.2 1 (by decide) (by decide)).trans hR1
  have g2 : gR X1 2 = q := (fX.2.2 2 (by decide) (by decide)).trans hR2
  -- the class, as far as its begin
  have hX2 : ∃ X2, X2 = sR (sR (sI (sI (sI X1 641 0) 15 0) 16 (-1)) 1 q) 2 (78 - q) := ⟨_, rfl⟩
  obtain ⟨X2, eX2⟩ := hX2
  have hX4 : ∃ X4, X4 = sI (sI (sR (sR X2 896 q) 1280 q) 1281 0) 1285 0 := ⟨_, rfl⟩
  obtain ⟨X4, eX4⟩ := hX4
  have r1 : gR X4 1 = q := by rw [eX4, eX2]; rfl
  have r2 : gR X4 2 = 78 - q := by rw [eX4, eX2]; rfl
  have r3 : gR X4 896 = q := by rw [eX4]; rfl
  have r4 : gR X4 1280 = q := by rw [eX4]; rfl
  have i4 : ∀ k, ¬ (k = 641 ∨ k = 15 ∨ k = 16 ∨ k = 1281 ∨ k = 1285) → gI X4 k = gI X1 k := fun k z => by
    rw [eX4, gI_ne (by omega), gI_ne (by omega)]
    show gI X2 k = _
    rw [eX2]
    show gI (sI (sI (sI X1 641 0) 15 0) 16 (-1)) k = _
    rw [gI_ne (by omega), gI_ne (by omega), gI_ne (by omega)]
  have a4 : gA X4 = gA X1 := by rw [eX4, eX2]; rfl
  have tw4 : xTw q X1 X4 := ⟨fun k z _ => i4 k (by omega), fun a _ _ => by rw [a4]⟩
  -- the reference, as far as its begin
  have hY2 : ∃ Y2, Y2 = sI (sI Y1 10 0) 11 (-1) := ⟨_, rfl⟩
  obtain ⟨Y2, eY2⟩ := hY2
  obtain ⟨Y3, m1, m2, m3, m4, m5, m6⟩ := measures (n0 := n0) (b := b) (M := Y2) hn hb (by rw [eY2, gI_ne (by decide), gI_ne (by decide)]; exact at3)
  have hY4 : ∃ Y4, Y4 = sI Y3 13 (nI b) := ⟨_, rfl⟩
  obtain ⟨Y4, eY4⟩ := hY4
  have A4 : ∀ a, ¬ a = 9 → gA Y4 a = gA Y1 a := fun a z => by
    rw [eY4]
    show gA Y3 a = _
    funext i
    rw [m6 a i (fun y => z y.1), eY2]
    rfl
  have B4 : gB Y4 = gB Y1 := by rw [eY4]; show gB Y3 = _; rw [m5, eY2]; rfl
  have L4 : gL Y4 = gL Y1 := by rw [eY4]; show gL Y3 = _; rw [m4, eY2]; rfl
  have I4 : ∀ k, ¬ (k = 10 ∨ k = 11 ∨ k = 13) → gI Y4 k = gI Y1 k := fun k z => by
    rw [eY4, gI_ne (by omega), m2, eY2, gI_ne (by omega), gI_ne (by omega)]
  have I13 : gI Y4 13 = nI b := by rw [eY4, gI_at]
  have TR4 : TownR q b nt nc nd nr C X4 Y4 := (hTR.tw tw4 yTw.r).nine A4 B4
  obtain ⟨T, t1, t2, t3, t4, t5⟩ := townT hn TR4 hq hb I13
  subst t1 t2 t3
  have ok := t4.2.1
  obtain ⟨o1, o2, o3, _⟩ := ok
  have pmD := TR4.2.2.1
  -- the class begins
  obtain ⟨X5, c1, c2, c3, c4, c5, c6, c7, c8⟩ := xb17 (n0 := n0) (q1 := q) (pa := gA X4 (q + 5)) hn o2 o3 n0 0 X4 (by omega) (by omega) (by rw [r4]; exact t4.2.2.1) (by rw [r4]; exact t4.2.2.2.1) (by rw [r4]; omega) (fun j _ => by rw [r4])
  have tw5 : xTw q X4 X5 := ⟨fun k _ _ => by rw [c7], fun a z1 z2 => by funext i; exact c8 a i (by omega)⟩
  have T5 := t4.tw tw5
  have S5 : SX q T.nc T.nd 0 (fun c => (gA X4 (q + 5) c, 0)) (0, []) X5 := by
    refine ⟨by rw [c4]; exact r3, by rw [c4]; exact r4, by rw [c7, eX4, gI_ne (by decide), gI_at]; rfl, fun c hc => c2 c (by omega) hc, fun d hd => ?_, by rw [c7, eX4, gI_at]; rfl, fun i p hp => by simp at hp⟩
    rw [c3 d hd]
    exact (zbit d).symm
  have Ps : PsO T.nt T.nc (fun c => (gA X4 (q + 5) c, 0)) := fun c hc => ⟨(pmD c hc).2, Nat.zero_le _⟩
  have sO : sOk T.nd (0, []) := ⟨Nat.pow_pos (by decide), Nat.zero_le _⟩
  obtain ⟨X6, d1, d2, d3⟩ := xfin hn T5 S5 Ps (by omega) sO
  -- the reference begins
  obtain ⟨Y5, e1, e2, e3, e4, e5, e6, e7⟩ := yb16 (n0 := n0) (b := b) (nc := T.nc) (pa := gA X4 (q + 5)) o2 hb n0 0 (sA (sA Y4 28 0 0) 31 0 0) (by omega) (by omega) I13 (by rw [gA_sA_ne (by decide), gA_sA_ne (by decide)]; exact t5.2.2.2.2.2.1) (fun j hj => by rw [gA_sA_ne (by decide), gA_sA_ne (by decide)]; exact (pmD j hj).1.symm)
  have hY6 : ∃ Y6, Y6 = sI (sI (sA Y5 32 0 0) 54 0) 61 0 := ⟨_, rfl⟩
  obtain ⟨Y6, eY6⟩ := hY6
  rw [← eY6] at e1
  have A6 : ∀ a, ¬ (28 ≤ a ∧ a ≤ 32) → gA Y6 a = gA Y4 a := fun a z => by
    rw [eY6]
    show gA (sA Y5 32 0 0) a = _
    rw [gA_sA_ne (by omega)]
    funext i
    rw [e7 a i (by omega), gA_sA_ne (by omega), gA_sA_ne (by omega)]
  have I6 : ∀ k, ¬ (k = 54 ∨ k = 61) → gI Y6 k = gI Y4 k := fun k z => by
    rw [eY6, gI_ne (by omega), gI_ne (by omega)]
    show gI Y5 k = _
    rw [e6]
    rfl
  have B6 : gB Y6 = gB Y4 := by rw [eY6]; show gB Y5 = _; rw [e5]; rfl
  have L6 : gL Y6 = gL Y4 := by rw [eY6]; show gL Y5 = _; rw [e4]; rfl
  have T6 : YT n0 b T Y6 := t5.tw (yTw.all (fun a z1 z2 => A6 a (by omega)) (fun a _ _ => by rw [B6])) (I6 13 (by decide))
  have L6d : LyD 0 T.nc 0 (fun c => (gA X4 (q + 5) c, 0)) (0, []) Y6 := by
    refine ⟨⟨?_, fun c hc => ?_⟩, ?_, ?_, fun i p hp => by simp at hp⟩
    · rw [eY6]
      show gA (sA Y5 32 0 0) 28 0 = _
      rw [gA_sA_ne (by decide), e7 28 0 (by omega), gA_sA_ne (by decide), gA_sA, if_pos rfl, if_pos rfl]
      rfl
    · rw [eY6]
      show gA (sA Y5 32 0 0) 29 (5 * 0 + c) = _ ∧ gA (sA Y5 32 0 0) 30 (5 * 0 + c) = _
      rw [gA_sA_ne (by decide), gA_sA_ne (by decide), show 5 * 0 + c = c by omega]
      exact e2 c (by omega) hc
    · rw [eY6]
      show gA (sA Y5 32 0 0) 31 0 = _
      rw [gA_sA_ne (by decide), e7 31 0 (by omega), gA_sA, if_pos rfl, if_pos rfl]
      rfl
    · rw [eY6]
      show gA (sA Y5 32 0 0) 32 0 = _
      rw [gA_sA, if_pos rfl, if_pos rfl]
      rfl
  obtain ⟨Y7, z1, z2, z3⟩ := yfinD (v := 0) hn T6 (by decide) L6d Ps sO (by omega)
  -- both calls
  have hX7 : ∃ X7, X7 = sI (sI X6 2050 0) 2688 0 := ⟨_, rfl⟩
  obtain ⟨X7, eX7⟩ := hX7
  have rX6 : gR X6 = gR X4 := d3.1.trans c4
  have iX6 : ∀ k, ¬ ((897 ≤ k ∧ k ≤ 900) ∨ k = 903 ∨ stI k) → gI X6 k = gI X4 k := fun k z => (d3.2.2.2.2 k z).trans (by rw [c7])
  have aX6 : ∀ a, ¬ (a = 8 ∨ a = 9 ∨ stA a) → gA X6 a = gA X1 a := fun a z => (d3.2.2.2.1 a z).trans (by funext i; rw [c8 a i (by unfold stA at z; omega), a4])
  have iX7 : ∀ k, ¬ (k = 2050 ∨ k = 2688) → gI X7 k = gI X6 k := fun k z => by rw [eX7, gI_ne (by omega), gI_ne (by omega)]
  have aX7 : gA X7 = gA X6 := by rw [eX7]; rfl
  have rX7 : gR X7 = gR X6 := by rw [eX7]; rfl
  have tw7 : xTw q X4 X7 := ⟨fun k p1 p2 => (iX7 k (by omega)).trans (iX6 k (by unfold stI; omega)), fun a p1 p2 => by rw [aX7, aX6 a (by unfold stA; omega), a4]⟩
  have cX : fX11_town n0 MX = some (nI j, X7) := by
    unfold fX11_town
    rw [hR2]
    refine eq_b k1 (eq_n (eq_e (v' := sI (sI X1 641 0) 15 0) ?_ (eq_e (v' := sI (sI (sI X1 641 0) 15 0) 16 (-1)) ?_ (eq_f (show ¬ (1 : Int32) = 0 by decide) (eq_e (v' := sR (sI (sI (sI X1 641 0) 15 0) 16 (-1)) 1 q) ?_ (eq_e (v' := X2) ?_ (eq_b (z := X7) ?_ ?_)))))))
    · rw [gI_ne (by decide), x391]
    · rw [gI_ne (by decide), gI_ne (by decide), x392]
    · rw [show gR (sI (sI (sI X1 641 0) 15 0) 16 (-1)) 2 = q from g2]
    · rw [show gR (sI (sI (sI X1 641 0) 15 0) 16 (-1)) 1 = 78 - q from g1, eX2]
    · unfold fX11_begin
      have rr : gR X2 1 = q := by rw [eX2]; rfl
      rw [rr]
      refine eq_n (eq_b (z := X5) ?_ (eq_b d1 (eq_n ?_)))
      · rw [show gR (sR X2 896 q) 1 = q from rr]
        unfold fX6_begin
        refine eq_n (eq_n (eq_e (v' := X4) (by rw [eX4]) c1))
      · rw [eX7]
    · rw [show gR X7 1 = q by rw [rX7, rX6]; exact r1, Nat.add_zero, iX7 _ (by omega), iX6 _ (by unfold stI; omega), i4 _ (by omega), k5]
  have cY : fX12_town n0 MY = some (nI j, Y7) := by
    rw [k2]
    unfold fX12_town_196
    refine eq_e (v' := sI Y1 10 0) (by rw [y8]) (eq_e (v' := Y2) ?_ (eq_t ?_ (eq_b m1 (eq_e (v' := Y4) ?_ (eq_b (z := Y7) ?_ rfl)))))
    · rw [gI_ne (by decide), y9, eY2]
    · rw [eY2, gI_ne (by decide), gI_ne (by decide), y8]; decide
    · rw [eY4, m2, eY2, gI_ne (by decide), gI_ne (by decide), at3]
    · unfold fX12_begin
      exact eq_f (by decide) (eq_n (eq_f (by decide) (eq_n (Eq.trans e1 (eq_b z1 rfl)))))
  have xI : ∀ k, k = 14 ∨ k = 17 ∨ k = 2049 → gI X7 k = gI MX k := fun k z => (iX7 k (by omega)).trans ((iX6 k (by unfold stI; omega)).trans ((i4 k (by omega)).trans (fX.1 k (by unfold rgX; omega))))
  have xA : ∀ a, a = 4 ∨ a = 6 ∨ a = 29 ∨ a = 30 → gA X7 a = gA MX a := fun a z => by rw [aX7, aX6 a (by unfold stA; omega)]; exact fX.2.1 a (by omega)
  have iY7 : ∀ k, gI Y7 k = gI Y6 k := fun k => by rw [z3.2.2.1]
  have yA : ∀ a, a = 1 ∨ a = 27 ∨ a = 43 → gA Y7 a = gA MY a := fun a z => by
    rw [z3.gA (fun i y => by unfold lP tP dP at y; omega) (by omega), A6 a (by omega), A4 a (by omega)]
    funext i
    exact fY.2.1 a i (by unfold regA; omega)
  have TR7 : TownR q b T.nt T.nc T.nd nr C X7 Y7 := TR4.tw tw7 (yTw.all (fun a p1 p2 => by rw [z3.gA (fun i y => by unfold lP tP dP at y; omega) (by omega), A6 a (by omega)]) (fun a p1 p2 => by rw [z3.2.2.2.2 a (by omega), B6]))
  obtain ⟨h1, h2, h3, h4, h5, h6⟩ := ho
  refine ⟨nI j, X7, Y7, cX, cY, q, b, T, nr, C, 0, (fun c => (gA X4 (q + 5) c, 0)), fnS (due T (fun c => (gA X4 (q + 5) c, 0)) 0) 0 (0, []) T.nd, ⟨hq, by rw [rX7, rX6]; exact r1, by rw [rX7, rX6]; exact r2, t4.tw tw7, T6.yf z3 lP28, TR7, rfl, rfl, rfl⟩, ⟨by omega, Ps, fnS_ok o3 sO _ (Nat.le_refl _)⟩, d2.cgs rX7 (iX7 1281 (by decide)) (iX7 1285 (by decide)) (fun a _ _ => by rw [aX7]), z2, ?_, ?_, ?_, ?_, ?_, ?_, ?_, ?_⟩
  · refine ⟨x0, f, 0, fun _ => (0, (fun _ => (-1, 0)), 0, 0), hx0, hf, by omega, ?_, ?_, ?_, ?_, fun i hi => by omega, fun i j _ hj => by omega⟩
    · rw [xI 2049 (by omega), u1, Nat.add_zero, Nat.mod_eq_of_lt hx0]
    · rw [eX7, gI_ne (by decide), gI_at]; rfl
    · rw [iY7, I6 53 (by decide), I4 53 (by decide), fY.1 53 (by unfold regI; omega)]; exact u2
    · rw [iY7, eY6, gI_ne (by decide), gI_at]; rfl
  · exact ⟨0, by omega, by rw [eX7, gI_at]; rfl, by rw [iY7, eY6, gI_at]; rfl, fun k hk => by omega⟩
  · exact h1.cg (xI 17 (by omega)) (by rw [z3.2.1, L6, L4]; exact fY.2.2.1 55 (by decide))
  · exact h2.cg (xI 14 (by omega)) (by rw [iY7, I6 67 (by decide), I4 67 (by decide)]; exact fY.1 67 (by unfold regI; omega)) (xA 29 (by omega)) (yA 43 (by omega))
  · exact h3.cg (xA 30 (by omega)) (yA 27 (by omega))
  · refine ⟨?_, ?_⟩
    · rw [iX7 15 (by decide), iX6 15 (by unfold stI; decide), iY7, I6 10 (by decide), eX4, gI_ne (by decide), gI_ne (by decide), eY4, gI_ne (by decide), m2, eY2, gI_ne (by decide), gI_at, eX2]
      rfl
    · rw [iX7 16 (by decide), iX6 16 (by unfold stI; decide), iY7, I6 11 (by decide), eX4, gI_ne (by decide), gI_ne (by decide), eY4, gI_ne (by decide), m2, eY2, gI_at, eX2]
      rfl
  · obtain ⟨L, l1, l2, l3, l4, l5⟩ := h5
    refine ⟨0, by omega, ?_, ?_, by rw [xA 6 (by omega), yA 1 (by omega)]; exact l4, fun i hi => by omega⟩
    · rw [iX7 641 (by decide), iX6 641 (by unfold stI; decide), eX4, gI_ne (by decide), gI_ne (by decide), eX2]
      rfl
    · rw [iY7, I6 1 (by decide), I4 1 (by decide), y1]
      rfl
  · exact h6.cg (xA 4 (by omega))
theorem cTown {n0 : Nat} {MX MY : Mem} (hn : 1700 ≤ n0) (h : R n0 MX MY) : Cal n0 (fX11_town n0 MX) (fX12_town n0 MY) := by
  obtain ⟨q, b, T, nr, C, m, pm, s, h⟩ := h
  obtain ⟨h1, h2, h3, h4, h5, h6, h7⟩ := id h
  have hq := h1.1
  have hb := h1.2.2.2.2.1.2.2.1
  have hok := h1.2.2.2.1.2.1
  have hl := h2.2.2.l
  obtain ⟨L, l1, l2, l3, l4, l5⟩ := h7.2.2.2.2.1
  rcases townC (n0 := n0) (q := 78 - q) (b := 1 - b) hn (by omega) (by omega) (by rw [h1.2.2.2.2.1.2.2.2.1]; congr 1; omega) l1 l2 l3 l4 l5 h7.2.2.2.2.2 with ⟨X1, Y1, sx, nt, nc, nd, nr', C', j, k1, k2, _, k4, k5, fX, fY, y1⟩ | ⟨X1, Y1, j, k1, k2, kF, fX, fY, y1⟩
  · obtain ⟨x0, f, u, e, a1, a2, a3, a4, a5, a6, a7, _⟩ := h5
    exact townGood hn (by omega) (by omega) (by rw [h1.2.1]; omega) h1.2.2.1 h7 (x0 := (x0 + u) % 20) (by omega) a2 a4 a6 k1 k2 k4 k5 fX fY y1
  · obtain ⟨k, f1, f2, f3, f4, f5⟩ := kF
    have hX2 : ∃ X2, X2 = sI (sI (sI X1 641 0) 15 (gI X1 391)) 16 (gI X1 392) := ⟨_, rfl⟩
    obtain ⟨X2, eX⟩ := hX2
    have hY2 : ∃ Y2, Y2 = sI (sI Y1 10 (gI Y1 8)) 11 (gI Y1 9) := ⟨_, rfl⟩
    obtain ⟨Y2, eY⟩ := hY2
    have xI : ∀ k, ¬ (k = 641 ∨ k = 15 ∨ k = 16) → ¬ (rgX (78 - q) k ∨ k = 128 * (78 - q)) → gI X2 k = gI MX k := fun k z1 z2 => by rw [eX, gI_ne (by omega), gI_ne (by omega), gI_ne (by omega)]; exact fX.1 k z2
    have xA : ∀ a, ¬ (78 - q ≤ a ∧ a < 78 - q + 16) → gA X2 a = gA MX a := fun a z => by rw [eX]; exact fX.2.1 a z
    have xR : ∀ k, ¬ k = 257 → ¬ k = 130 → gR X2 k = gR MX k := fun k z1 z2 => by rw [eX]; exact fX.2.2 k z1 z2
    have yI : ∀ k, ¬ (k = 10 ∨ k = 11) → ¬ (regI k ∨ k = 1 ∨ k = 2 ∨ k = 34) → gI Y2 k = gI MY k := fun k z1 z2 => by rw [eY, gI_ne (by omega), gI_ne (by omega)]; exact fY.1 k z2
    have yA : ∀ a i, ¬ regA (1 - b) a i → gA Y2 a i = gA MY a i := fun a i z => by rw [eY]; exact fY.2.1 a i z
    have yA2 : ∀ a, a = 1 ∨ 27 ≤ a → gA Y2 a = gA MY a := fun a z => by
      funext i
      exact yA a i (by unfold regA; omega)
    have yB : ∀ a i, ¬ regB (1 - b) a i → gB Y2 a i = gB MY a i := fun a i z => by rw [eY]; exact fY.2.2.2 a i z
    have hR : R n0 X2 Y2 := by
      refine ⟨q, b, T, nr, C, m, pm, s, h1.tw ⟨fun j z1 z2 => xI j (by omega) (by unfold rgX; omega), fun a z1 z2 => xA a (by omega)⟩ ⟨fun a i z1 z2 => yA a i (by unfold regA at z2 ⊢; omega), fun a i z => yB a i (by unfold regB at z ⊢; omega)⟩ (yI 13 (by decide) (by unfold regI; omega)) (xR 1 (by decide) (by decide)) (xR 2 (by decide) (by decide)), h2, ?_, h4.cg hok.2.1 (by omega) (fun a i z => by rw [yA2 a (by unfold lP tP dP at z; omega)]), h5.cg hok ⟨[], (List.append_nil _).symm⟩ (fun p z1 z2 => xA p (by omega)) (xI 2049 (by decide) (by unfold rgX; omega)) (xI 2050 (by decide) (by unfold rgX; omega)) (yI 53 (by decide) (by unfold regI; omega)) (yI 54 (by decide) (by unfold regI; omega)) (fun a i z => by rw [yA2 a (by unfold uP at z; omega)]), h6.cg (xI 2688 (by decide) (by unfold rgX; omega)) (yI 61 (by decide) (by unfold regI; omega)) (fun a z1 z2 => xA a (by omega)) (fun a z1 z2 => yA2 a (by omega)), ?_⟩
      · obtain ⟨s1, s2, s3, s4, s5, s6, s7⟩ := h3
        refine ⟨(xR 896 (by decide) (by decide)).trans s1, (xR 1280 (by decide) (by decide)).trans s2, (xI 1281 (by decide) (by unfold rgX; omega)).trans s3, fun c hc => ?_, fun d hd => ?_, (xI 1285 (by decide) (by unfold rgX; omega)).trans s6, fun i p hp => ?_⟩
        · rw [xA 11 (by omega), xA 12 (by omega)]; exact s4 c hc
        · rw [xA 13 (by omega)]; exact s5 d hd
        · rw [xA 14 (by omega), xA 15 (by omega)]; exact s7 i p hp
      · obtain ⟨o1, o2, o3, o4, o5, o6⟩ := h7
        refine ⟨o1.cg (xI 17 (by decide) (by unfold rgX; omega)) ?_, o2.cg (xI 14 (by decide) (by unfold rgX; omega)) (yI 67 (by decide) (by unfold regI; omega)) (xA 29 (by omega)) (yA2 43 (by omega)), o3.cg (xA 30 (by omega)) (yA2 27 (by omega)), ⟨?_, ?_⟩, ⟨0, by omega, ?_, ?_, by rw [yA2 1 (by omega), xA 6 (by omega)]; exact l4, fun i hi => by omega⟩, o6.cg (xA 4 (by omega))⟩
        · rw [eY]; exact fY.2.2.1 55 (by decide)
        · rw [eX, gI_ne (by decide), gI_at, eY, gI_ne (by decide), gI_at, f3, f4]
        · rw [eX, gI_at, eY, gI_at, f5]
        · rw [eX, gI_ne (by decide), gI_ne (by decide), gI_at]; rfl
        · rw [eY, gI_ne (by decide), gI_ne (by decide), y1]; rfl
    refine Cal.ref (k := 1) (r := -1) hR (by decide) ?_ ?_
    · unfold fX11_town
      rw [h1.2.2.1]
      refine eq_b k1 (eq_n (eq_n (eq_e (v' := X2) (by rw [eX]; rfl) (eq_t rfl (eq_b (xref (k := 1) (by decide)) rfl)))))
    · rw [k2]
      unfold fX12_town_196
      refine eq_n (eq_e (v' := Y2) (by rw [eY]; rfl) (eq_f ?_ (eq_b (yref (k := 1) (by decide)) rfl)))
      rw [eY, gI_ne (by decide), gI_ne (by decide), f4]
      exact nI_ge (a := 0) (by omega) (by omega)
end
section
/-! WHAT WAS SEEN, ON BOTH SIDES -/
theorem byt_v {t : Nat → Int32} {L i : Nat} (h : Byt t L) (hi : i < L) : ∃ v, v ≤ 255 ∧ t i = nI v := by
  obtain ⟨j, _, h2, e⟩ := in_nI (a := 0) (b := 255) (by decide) (h i hi) (by decide)
  exact ⟨j, h2, e⟩
def gdS (t : Nat → Int32) (nc k : Nat) : Prop := ∃ a c h, a ≤ 40 ∧ c < nc ∧ h ≤ 23 ∧ t (3 * k) = nI a ∧ t (3 * k + 1) = nI c ∧ t (3 * k + 2) = nI h
theorem n3 (k : Nat) : (3 : Int32) * nI k = nI (3 * k) := by rw [show (3 : Int32) = nI 3 from rfl, nI_mul]
abbrev xsL (n0 q : Nat) : Nat → Int32 → Int32 → Mem → Option (Int32 × Mem) := loopN (bX5_read_33 n0 q) (fun _ _ _ => none)
abbrev ysL (n0 : Nat) : Nat → Int32 → Int32 → Int32 → Mem → Option (Int32 × Mem) := loopN (bX12_see_34 n0) (fun _ _ _ _ => none)
theorem seeL {n0 q b rows nc : Nat} {MX MY : Mem} (h5 : nc ≤ 5) (hb : b ≤ 1) (x641 : gI MX 641 = nI (3 * rows)) (h16 : rows ≤ 16) (hby : Byt (gA MX 6) (3 * rows)) (hT : gA MY 1 = gA MX 6) (xq : gI MX (128 * q + 5) = nI nc) (h13 : gI MY 13 = nI b) (y5 : gA MY 5 b = nI nc) : ∀ w k, k ≤ rows → rows + 1 < w + k →
    (xsL n0 q w (nI rows) (nI k) MX = fX5_read_107 n0 q (nI rows) 0 MX ∧ ysL n0 w (nI (3 * rows)) 1 (nI (3 * k)) MY = fX12_see_94 n0 (nI (3 * rows)) 1 MY ∧ ∀ j, k ≤ j → j < rows → gdS (gA MX 6) nc j) ∨
    (xsL n0 q w (nI rows) (nI k) MX = some (0, MX) ∧ ysL n0 w (nI (3 * rows)) 1 (nI (3 * k)) MY = fX12_see_94 n0 (nI (3 * rows)) 0 MY)
  | 0, k, hk, hw => by omega
  | w + 1, k, hk, hw => by
    show (bX5_read_33 n0 q (xsL n0 q w) (nI rows) (nI k) MX = _ ∧ bX12_see_34 n0 (ysL n0 w) (nI (3 * rows)) 1 (nI (3 * k)) MY = _ ∧ _) ∨ (bX5_read_33 n0 q (xsL n0 q w) (nI rows) (nI k) MX = _ ∧ bX12_see_34 n0 (ysL n0 w) (nI (3 * rows)) 1 (nI (3 * k)) MY = _)
    by_cases g : k = rows
    · refine Or.inl ⟨?_, ?_, fun j h1 h2 => by omega⟩
      · unfold bX5_read_33
        exact eq_t (by rw [g]; exact Int32.le_refl _) rfl
      · unfold bX12_see_34
        exact eq_t (by rw [g]; exact Int32.le_refl _) rfl
    · have hx : ¬ nI rows ≤ nI k := nI_ge (by omega) (by omega)
      have hy : ¬ nI (3 * rows) ≤ nI (3 * k) := nI_ge (by omega) (by omega)
      obtain ⟨v0, p0, e0⟩ := byt_v hby (i := 3 * k) (by omega)
      obtain ⟨v1, p1, e1⟩ := byt_v hby (i := 3 * k + 1) (by omega)
      obtain ⟨v2, p2, e2⟩ := byt_v hby (i := 3 * k + 2) (by omega)
      have k0 : (nI (3 * k)).toNatClampNeg = 3 * k := nI_clamp (by omega)
      have k1 : (nI (3 * k + 1)).toNatClampNeg = 3 * k + 1 := nI_clamp (by omega)
      have k2 : (nI (3 * k + 2)).toNatClampNeg = 3 * k + 2 := nI_clamp (by omega)
      have i1 : nI (3 * k) + 1 = nI (3 * k + 1) := nI_add _ 1
      have i2 : nI (3 * k) + 2 = nI (3 * k + 2) := nI_add _ 2
      have i3 : nI (3 * k) + 3 = nI (3 * (k + 1)) := by rw [show nI (3 * k) + 3 = nI (3 * k + 3) from nI_add _ 3, Nat.mul_add]
      have c1 : nI k + 1 = nI (k + 1) := nI_add k 1
      have a0 : fX7_at n0 (nI (3 * k)) MX = some (nI v0, MX) := by rw [xat x641 (by omega) (by omega), e0]
      have a1 : fX7_at n0 (nI (3 * k + 1)) MX = some (nI v1, MX) := by rw [xat x641 (by omega) (by omega), e1]
      have a2 : fX7_at n0 (nI (3 * k + 2)) MX = some (nI v2, MX) := by rw [xat x641 (by omega) (by omega), e2]
      have badY : fX12_see_86 n0 (ysL n0 w) (nI (3 * rows)) (nI (3 * k)) MY = fX12_see_94 n0 (nI (3 * rows)) 0 MY := by
        unfold fX12_see_86 fX12_see_87
        rw [i3]
        obtain ⟨w', rfl⟩ : ∃ w', w = w' + 1 := ⟨w - 1, by omega⟩
        show bX12_see_34 n0 (ysL n0 w') (nI (3 * rows)) 0 (nI (3 * (k + 1))) MY = _
        unfold bX12_see_34
        by_cases z : nI (3 * rows) ≤ nI (3 * (k + 1))
        · exact eq_t z rfl
        · exact eq_f z (eq_t rfl rfl)
      have badX : fX5_read_73 n0 q (xsL n0 q w) (nI rows) (nI k) MX = some (0, MX) := by
        unfold fX5_read_73 fX5_read_74
        exact eq_t rfl rfl
      have y0 : gA MY 1 (nI (3 * k)).toNatClampNeg = nI v0 := by rw [k0, hT, e0]
      have y1 : gA MY 1 (nI (3 * k) + 1).toNatClampNeg = nI v1 := by rw [i1, k1, hT, e1]
      have y2 : gA MY 1 (nI (3 * k) + 2).toNatClampNeg = nI v2 := by rw [i2, k2, hT, e2]
      have o0 : ¬ oob (nI (3 * k)) 1800 := nI_in (by omega) (by decide)
      have o1 : ¬ oob (nI (3 * k) + 1) 1800 := by rw [i1]; exact nI_in (by omega) (by decide)
      have o2 : ¬ oob (nI (3 * k) + 2) 1800 := by rw [i2]; exact nI_in (by omega) (by decide)
      by_cases b0 : v0 ≤ 40
      · have q0 : ¬ (40 : Int32) < nI v0 := fun z => by have := (nI_ltI (a := 40) (by decide) (by omega)).mp z; omega
        by_cases b1 : v1 < nc
        · by_cases b2 : v2 ≤ 23
          · have q2 : ¬ (23 : Int32) < nI v2 := fun z => by have := (nI_ltI (a := 23) (by decide) (by omega)).mp z; omega
            have sx : bX5_read_33 n0 q (xsL n0 q w) (nI rows) (nI k) MX = xsL n0 q w (nI rows) (nI (k + 1)) MX := by
              unfold bX5_read_33
              simp only [n3, i1]
              refine eq_f hx (eq_b a0 (eq_f q0 (eq_b a1 (eq_b (xCot xq (by omega) b1) (eq_f (show ¬ (1 : Int32) = 0 by decide) ?_)))))
              unfold fX5_read_74
              simp only [n3, i2]
              refine eq_f (by decide) (eq_b a2 (eq_t (nI_le (b := 23) b2 (by decide)) ?_))
              rw [c1]
            have sy : bX12_see_34 n0 (ysL n0 w) (nI (3 * rows)) 1 (nI (3 * k)) MY = ysL n0 w (nI (3 * rows)) 1 (nI (3 * (k + 1))) MY := by
              unfold bX12_see_34
              refine eq_f hy (eq_f (by decide) (eq_f o0 (eq_f (by rw [y0]; exact q0) (eq_f o1 (eq_b (by rw [y1]; exact yCot h13 hb y5 (by omega) b1) (eq_f (show ¬ (1 : Int32) = 0 by decide) (eq_f o2 (eq_f (by rw [y2]; exact q2) ?_))))))))
              unfold fX12_see_87
              rw [i3]
            rw [sx, sy]
            rcases seeL h5 hb x641 h16 hby hT xq h13 y5 w (k + 1) (by omega) (by omega) with ⟨r1, r2, r3⟩ | ⟨r1, r2⟩
            · refine Or.inl ⟨r1, r2, fun j h1 h2 => ?_⟩
              by_cases z : j = k
              · rw [z]
                exact ⟨v0, v1, v2, b0, b1, b2, e0, e1, e2⟩
              · exact r3 j (by omega) h2
            · exact Or.inr ⟨r1, r2⟩
          · refine Or.inr ⟨?_, ?_⟩
            · unfold bX5_read_33
              simp only [n3, i1]
              refine eq_f hx (eq_b a0 (eq_f q0 (eq_b a1 (eq_b (xCot xq (by omega) b1) (eq_f (show ¬ (1 : Int32) = 0 by decide) ?_)))))
              unfold fX5_read_74
              simp only [n3, i2]
              exact eq_f (by decide) (eq_b a2 (eq_f (nI_ge (a := 23) (by omega) (by omega)) rfl))
            · unfold bX12_see_34
              exact eq_f hy (eq_f (by decide) (eq_f o0 (eq_f (by rw [y0]; exact q0) (eq_f o1 (eq_b (by rw [y1]; exact yCot h13 hb y5 (by omega) b1) (eq_f (show ¬ (1 : Int32) = 0 by decide) (eq_f o2 (eq_t (by rw [y2]; exact nI_lt (a := 23) (by omega) (by omega)) badY))))))))
        · have zz : nI v1 < 0 ∨ nI nc ≤ nI v1 := Or.inr (nI_le (by omega) (by omega))
          refine Or.inr ⟨?_, ?_⟩
          · unfold bX5_read_33
            simp only [n3, i1]
            exact eq_f hx (eq_b a0 (eq_f q0 (eq_b a1 (eq_b (xCof xq zz) (eq_t rfl badX)))))
          · unfold bX12_see_34
            exact eq_f hy (eq_f (by decide) (eq_f o0 (eq_f (by rw [y0]; exact q0) (eq_f o1 (eq_b (by rw [y1]; exact yCof h13 hb y5 zz) (eq_t rfl badY))))))
      · have q0 : (40 : Int32) < nI v0 := nI_lt (a := 40) (by omega) (by omega)
        refine Or.inr ⟨?_, ?_⟩
        · unfold bX5_read_33
          simp only [n3]
          exact eq_f hx (eq_b a0 (eq_t q0 badX))
        · unfold bX12_see_34
          exact eq_f hy (eq_f (by decide) (eq_f o0 (eq_t (by rw [y0]; exact q0) badY)))
abbrev xcL (n0 q : Nat) : Nat → Int32 → Int32 → Mem → Option (Int32 × Mem) := loopN (bX5_read_107 n0 q) (fun _ _ _ => none)
theorem xsee {n0 q rows : Nat} (h16 : rows ≤ 16) : ∀ w k M, k ≤ rows → rows < w + k → gI M 641 = nI (3 * rows) → ∃ M', xcL n0 q w (nI rows) (nI k) M = some (1, sI M' 2688 (nI rows)) ∧ (∀ j, k ≤ j → j < rows → gA M' 22 j = gA M 6 (3 * j) ∧ gA M' 23 j = gA M 6 (3 * j + 1) ∧ gA M' 24 j = gA M 6 (3 * j + 2)) ∧ gR M' = gR M ∧ gL M' = gL M ∧ gB M' = gB M ∧ gI M' = gI M ∧ ∀ a i, ¬ (22 ≤ a ∧ a ≤ 24 ∧ k ≤ i) → gA M' a i = gA M a i
  | 0, k, M, hk, hw, _ => by omega
  | w + 1, k, M, hk, hw, hL => by
    show ∃ M', bX5_read_107 n0 q (xcL n0 q w) (nI rows) (nI k) M = _ ∧ _
    unfold bX5_read_107
    by_cases g : k = rows
    · exact ⟨M, eq_t (by rw [g]; exact Int32.le_refl _) rfl, fun j h1 h2 => by omega, rfl, rfl, rfl, rfl, fun _ _ _ => rfl⟩
    · have ck : (nI k).toNatClampNeg = k := nI_clamp (by omega)
      have ok : ¬ oob (nI k) 16 := nI_in (by omega) (by decide)
      have i1 : nI (3 * k) + 1 = nI (3 * k + 1) := nI_add _ 1
      have i2 : nI (3 * k) + 2 = nI (3 * k + 2) := nI_add _ 2
      have hM : ∃ N, N = sA (sA (sA M 22 k (gA M 6 (3 * k))) 23 k (gA M 6 (3 * k + 1))) 24 k (gA M 6 (3 * k + 2)) := ⟨_, rfl⟩
      obtain ⟨N, eN⟩ := hM
      have nA : ∀ a i, ¬ (22 ≤ a ∧ a ≤ 24 ∧ i = k) → gA N a i = gA M a i := fun a i z => by
        rw [eN, gA_sA]
        by_cases z4 : a = 24
        · rw [if_pos z4, if_neg (by omega), gA_sA_ne (by decide), gA_sA_ne (by decide), z4]
        · rw [if_neg z4, gA_sA]
          by_cases z3 : a = 23
          · rw [if_pos z3, if_neg (by omega), gA_sA_ne (by decide), z3]
          · rw [if_neg z3, gA_sA]
            by_cases z2 : a = 22
            · rw [if_pos z2, if_neg (by omega), z2]
            · rw [if_neg z2]
      obtain ⟨M', r1, r2, r3, r4, r5, r6, r7⟩ := xsee (n0 := n0) (q := q) h16 w (k + 1) N (by omega) (by omega) (by rw [eN]; exact hL)
      refine ⟨M', ?_, fun j h1 h2 => ?_, r3.trans (by rw [eN]; rfl), r4.trans (by rw [eN]; rfl), r5.trans (by rw [eN]; rfl), r6.trans (by rw [eN]; rfl), fun a i z => (r7 a i (by omega)).trans (nA a i (by omega))⟩
      · simp only [n3, i1, i2]
        refine eq_f (nI_ge (by omega) (by omega)) (eq_b (xat hL (by omega) (by omega)) (eq_f ok (eq_e (v' := sA M 22 k (gA M 6 (3 * k))) (by rw [ck]) (eq_b (xat (M := sA M 22 k (gA M 6 (3 * k))) (L := 3 * rows) hL (by omega) (by omega)) (eq_f ok (eq_e (v' := sA (sA M 22 k (gA M 6 (3 * k))) 23 k (gA M 6 (3 * k + 1))) ?_ (eq_b (xat (M := sA (sA M 22 k (gA M 6 (3 * k))) 23 k (gA M 6 (3 * k + 1))) (L := 3 * rows) hL (by omega) (by omega)) (eq_f ok (eq_e (v' := N) ?_ ?_)))))))))
        · rw [ck, gA_sA_ne (by decide)]
        · rw [ck, gA_sA_ne (by decide), gA_sA_ne (by decide), eN]
        · rw [show nI k + 1 = nI (k + 1) from nI_add k 1]
          exact r1
      · by_cases z : j = k
        · rw [z, r7 22 k (by omega), r7 23 k (by omega), r7 24 k (by omega), eN]
          refine ⟨?_, ?_, ?_⟩
          · rw [gA_sA_ne (by decide), gA_sA_ne (by decide), gA_sA, if_pos rfl, if_pos rfl]
          · rw [gA_sA_ne (by decide), gA_sA, if_pos rfl, if_pos rfl]
          · rw [gA_sA, if_pos rfl, if_pos rfl]
        · obtain ⟨p1, p2, p3⟩ := r2 j (by omega) h2
          rw [p1, p2, p3, nA 6 _ (by omega), nA 6 _ (by omega), nA 6 _ (by omega)]
          exact ⟨rfl, rfl, rfl⟩
abbrev ycL (n0 : Nat) : Nat → Int32 → Mem → Option (Int32 × Mem) := loopN (bX12_see_113 n0) (fun _ _ => none)
theorem ysee {n0 rows : Nat} (h16 : rows ≤ 16) : ∀ w k M, k ≤ rows → rows < w + k → gI M 61 = nI rows → ∃ M', ycL n0 w (nI k) M = some (nI rows, M') ∧ (∀ j, k ≤ j → j < rows → gA M' 39 j = gA M 1 (3 * j) ∧ gA M' 40 j = gA M 1 (3 * j + 1) ∧ gA M' 41 j = gA M 1 (3 * j + 2)) ∧ gR M' = gR M ∧ gL M' = gL M ∧ gB M' = gB M ∧ gI M' = gI M ∧ ∀ a i, ¬ (39 ≤ a ∧ a ≤ 41 ∧ k ≤ i) → gA M' a i = gA M a i
  | 0, k, M, hk, hw, _ => by omega
  | w + 1, k, M, hk, hw, hL => by
    show ∃ M', bX12_see_113 n0 (ycL n0 w) (nI k) M = _ ∧ _
    unfold bX12_see_113
    by_cases g : k = rows
    · exact ⟨M, eq_t (by rw [hL, g]; exact Int32.le_refl _) (by rw [hL]), fun j h1 h2 => by omega, rfl, rfl, rfl, rfl, fun _ _ _ => rfl⟩
    · have ck : (nI k).toNatClampNeg = k := nI_clamp (by omega)
      have ok : ¬ oob (nI k) 16 := nI_in (by omega) (by decide)
      have i1 : nI (3 * k) + 1 = nI (3 * k + 1) := nI_add _ 1
      have i2 : nI (3 * k) + 2 = nI (3 * k + 2) := nI_add _ 2
      have k0 : (nI (3 * k)).toNatClampNeg = 3 * k := nI_clamp (by omega)
      have k1 : (nI (3 * k + 1)).toNatClampNeg = 3 * k + 1 := nI_clamp (by omega)
      have k2 : (nI (3 * k + 2)).toNatClampNeg = 3 * k + 2 := nI_clamp (by omega)
      have hM : ∃ N, N = sA (sA (sA M 39 k (gA M 1 (3 * k))) 40 k (gA M 1 (3 * k + 1))) 41 k (gA M 1 (3 * k + 2)) := ⟨_, rfl⟩
      obtain ⟨N, eN⟩ := hM
      have nA : ∀ a i, ¬ (39 ≤ a ∧ a ≤ 41 ∧ i = k) → gA N a i = gA M a i := fun a i z => by
        rw [eN, gA_sA]
        by_cases z4 : a = 41
        · rw [if_pos z4, if_neg (by omega), gA_sA_ne (by decide), gA_sA_ne (by decide), z4]
        · rw [if_neg z4, gA_sA]
          by_cases z3 : a = 40
          · rw [if_pos z3, if_neg (by omega), gA_sA_ne (by decide), z3]
          · rw [if_neg z3, gA_sA]
            by_cases z2 : a = 39
            · rw [if_pos z2, if_neg (by omega), z2]
            · rw [if_neg z2]
      obtain ⟨M', r1, r2, r3, r4, r5, r6, r7⟩ := ysee (n0 := n0) h16 w (k + 1) N (by omega) (by omega) (by rw [eN]; exact hL)
      refine ⟨M', ?_, fun j h1 h2 => ?_, r3.trans (by rw [eN]; rfl), r4.trans (by rw [eN]; rfl), r5.trans (by rw [eN]; rfl), r6.trans (by rw [eN]; rfl), fun a i z => (r7 a i (by omega)).trans (nA a i (by omega))⟩
      · simp only [n3, i1, i2, k0, k1, k2, ck]
        refine eq_f (by rw [hL]; exact nI_ge (by omega) (by omega)) (eq_f (nI_in (by omega) (by decide)) (eq_f ok (eq_n (eq_f (nI_in (by omega) (by decide)) (eq_f ok (eq_n (eq_f (nI_in (by omega) (by decide)) (eq_f ok (eq_e (v' := N) ?_ ?_)))))))))
        · rw [eN, gA_sA_ne (by decide), gA_sA_ne (by decide), gA_sA_ne (by decide)]
        · rw [show nI k + 1 = nI (k + 1) from nI_add k 1]
          exact r1
      · by_cases z : j = k
        · rw [z, r7 39 k (by omega), r7 40 k (by omega), r7 41 k (by omega), eN]
          refine ⟨?_, ?_, ?_⟩
          · rw [gA_sA_ne (by decide), gA_sA_ne (by decide), gA_sA, if_pos rfl, if_pos rfl]
          · rw [gA_sA_ne (by decide), gA_sA, if_pos rfl, if_pos rfl]
          · rw [gA_sA, if_pos rfl, if_pos rfl]
        · obtain ⟨p1, p2, p3⟩ := r2 j (by omega) h2
          rw [p1, p2, p3, nA 1 _ (by omega), nA 1 _ (by omega), nA 1 _ (by omega)]
          exact ⟨rfl, rfl, rfl⟩
/-- the tape goes, nothing else -/
theorem R.gone {n0 : Nat} {MX MY : Mem} (h : R n0 MX MY) : R n0 (sI MX 641 0) (sI MY 1 0) := by
  obtain ⟨q, b, T, nr, C, m, pm, s, h⟩ := h
  have ho := h.2.2.2.2.2.2
  obtain ⟨L, l1, l2, l3, l4, l5⟩ := ho.2.2.2.2.1
  exact ⟨q, b, T, nr, C, m, pm, s, h.ou ⟨rfl, fun k z => gI_ne (by omega), fun _ _ => rfl⟩ ⟨fun k z => gI_ne (by omega), fun _ _ => rfl, rfl⟩ ⟨ho.1, ho.2.1, ho.2.2.1, ho.2.2.2.1, ⟨0, by omega, gI_at, gI_at, l4, fun i hi => by omega⟩, ho.2.2.2.2.2⟩⟩
theorem cSee {n0 : Nat} {MX MY : Mem} (hn : 1700 ≤ n0) (h : R n0 MX MY) : Cal n0 (fX11_see n0 MX) (fX12_see n0 MY) := by
  have hg := h.gone
  obtain ⟨q, b, T, nr, C, m, pm, s, h⟩ := h
  obtain ⟨h1, h2, h3, h4, h5, h6, h7⟩ := id h
  have hok := h1.2.2.2.1.2.1
  have hl := h2.2.2.l
  have hb := h1.2.2.2.2.1.2.2.1
  have h13 := h1.2.2.2.2.1.2.2.2.1
  have hq := h1.1
  obtain ⟨L, l1, l2, l3, l4, l5⟩ := h7.2.2.2.2.1
  -- refused on both sides
  have bad : ∀ g, fX5_read n0 q MX = some (0, MX) → g = fX12_see_94 n0 (nI L) 0 (sI MY 1 0) → Cal n0 (fX11_see n0 MX) g := fun g e1 e2 => by
    refine Cal.ref (k := 5) (r := -1) hg (by decide) ?_ (e2.trans ?_)
    · unfold fX11_see
      rw [h1.2.1]
      exact eq_b e1 (eq_n (eq_t rfl (eq_b (xref (k := 5) (by decide)) rfl)))
    · unfold fX12_see_94
      exact eq_t rfl (eq_b (yref (k := 5) (by decide)) rfl)
  have s30 : ∀ M : Mem, fX12_see_30 n0 (nI L) M = fX12_see_94 n0 (nI L) 0 M := fun M => by
    unfold fX12_see_30 fX12_see_31 fX12_see_34
    obtain ⟨w, rfl⟩ : ∃ w, n0 = w + 1 := ⟨n0 - 1, by omega⟩
    show bX12_see_34 (w + 1) (loopN (bX12_see_34 (w + 1)) (fun _ _ _ _ => none) w) (nI L) 0 0 M = _
    unfold bX12_see_34
    by_cases z : nI L ≤ 0
    · exact eq_t z rfl
    · exact eq_f z (eq_t rfl rfl)
  have d3 : gI MX 641 / 3 = nI (L / 3) := by rw [l2, show (3 : Int32) = nI 3 from rfl, nI_div (by omega) (by decide)]
  by_cases g0 : L = 0
  · refine bad _ ?_ ?_
    · unfold fX5_read
      exact eq_f (by decide) (eq_e d3 (eq_t (by rw [g0]; decide) rfl))
    · unfold fX12_see
      refine eq_e l3 (eq_n (eq_t (by rw [g0]; decide) (s30 _)))
  · have lp : ¬ nI L ≤ 0 := nI_ge (a := 0) (by omega) (by omega)
    by_cases g1 : L % 3 = 0
    · have e3 : rem32 (nI L) 3 = 0 := by rw [show (3 : Int32) = nI 3 from rfl, rem_nI (by omega) (by decide), g1]; rfl
      by_cases g2 : 48 < L
      · refine bad _ ?_ ?_
        · unfold fX5_read
          exact eq_f (by decide) (eq_e d3 (eq_f (fun z => by have := (nI_ltI (b := 1) (by omega) (by decide)).mp z; omega) (eq_t (nI_lt (a := 16) (by omega) (by omega)) rfl)))
        · unfold fX12_see
          exact eq_e l3 (eq_n (eq_f lp (eq_f (by decide) (eq_t e3 (eq_t (nI_lt (a := 48) g2 (by omega)) (s30 _))))))
      · obtain ⟨rows, rfl⟩ : ∃ rows, L = 3 * rows := ⟨L / 3, by omega⟩
        have dr : 3 * rows / 3 = rows := by omega
        have xr : fX5_read n0 q MX = xsL n0 q n0 (nI rows) (nI 0) MX := by
          unfold fX5_read
          refine eq_f (by decide) (eq_e (v' := nI rows) (by rw [d3, dr]) (eq_f (fun z => by have := (nI_ltI (b := 1) (by omega) (by decide)).mp z; omega) (eq_f (fun z => by have := (nI_ltI (a := 16) (by decide) (by omega)).mp z; omega) (eq_t (by rw [l2, n3]) rfl))))
        have yr : fX12_see n0 MY = ysL n0 n0 (nI (3 * rows)) 1 (nI (3 * 0)) (sI MY 1 0) := by
          unfold fX12_see
          exact eq_e l3 (eq_n (eq_f lp (eq_f (by decide) (eq_t e3 (eq_f (fun z => by have := (nI_ltI (a := 48) (by decide) (by omega)).mp z; omega) rfl)))))
        rcases seeL (n0 := n0) (q := q) (b := b) (rows := rows) (nc := T.nc) (MX := MX) (MY := sI MY 1 0) hok.2.1 hb l2 (by omega) l5 l4 h1.2.2.2.1.2.2.1 h13 h1.2.2.2.2.1.2.2.2.2.2.1 n0 0 (by omega) (by omega) with ⟨r1, r2, r3⟩ | ⟨r1, r2⟩
        · obtain ⟨X1, a1, a2, a3, a4, a5, a6, a7⟩ := xsee (n0 := n0) (q := q) (rows := rows) (by omega) n0 0 MX (by omega) (by omega) l2
          obtain ⟨Y1, b1, b2, b3, b4, b5, b6, b7⟩ := ysee (n0 := n0) (rows := rows) (by omega) n0 0 (sI (sI MY 1 0) 61 (nI rows)) (by omega) (by omega) gI_at
          have xI : ∀ k, ¬ (k = 641 ∨ k = 2688) → gI (sI (sI X1 2688 (nI rows)) 641 0) k = gI MX k := fun k z => by rw [gI_ne (by omega), gI_ne (by omega), a6]
          have xA : ∀ a, ¬ (22 ≤ a ∧ a ≤ 24) → gA X1 a = gA MX a := fun a z => by
            funext i
            exact a7 a i (by omega)
          have yI : ∀ k, ¬ (k = 1 ∨ k = 61) → gI Y1 k = gI MY k := fun k z => by rw [b6, gI_ne (by omega), gI_ne (by omega)]
          have yA : ∀ a, ¬ (39 ≤ a ∧ a ≤ 41) → gA Y1 a = gA MY a := fun a z => by
            funext i
            exact b7 a i (by omega)
          refine ⟨nI rows, sI (sI X1 2688 (nI rows)) 641 0, Y1, ?_, ?_, q, b, T, nr, C, m, pm, s, h1.cgs a3 (fun k z => xI k (by omega)) (fun a z1 z2 => xA a (by omega)) (yI 13 (by decide)) (fun a z1 z2 => yA a (by omega)) (fun a _ _ => by rw [b5]; rfl), h2, h3.cgs a3 (xI 1281 (by decide)) (xI 1285 (by decide)) (fun a z1 z2 => xA a (by omega)), h4.cg hok.2.1 (by omega) (fun a i z => by rw [yA a (by unfold lP tP dP at z; omega)]), h5.cg hok ⟨[], (List.append_nil _).symm⟩ (fun p z1 z2 => xA p (by omega)) (xI 2049 (by decide)) (xI 2050 (by decide)) (yI 53 (by decide)) (yI 54 (by decide)) (fun a i z => by rw [yA a (by unfold uP at z; omega)]), ⟨rows, by omega, by rw [gI_ne (by decide), gI_at], by rw [b6, gI_at], fun k hk => ?_⟩, ?_⟩
          · unfold fX11_see
            rw [h1.2.1]
            refine eq_b (z := (1, sI X1 2688 (nI rows))) (xr.trans (r1.trans a1)) (eq_n (eq_f (show ¬ (1 : Int32) = 0 by decide) ?_))
            rw [gI_ne (by decide), gI_at]
          · rw [yr, r2]
            unfold fX12_see_94
            refine eq_f (by decide) (eq_f (by decide) (eq_e (v' := sI (sI MY 1 0) 61 (nI rows)) ?_ b1))
            rw [show (3 : Int32) = nI 3 from rfl, nI_div (by omega) (by decide), dr]
          · obtain ⟨a, c, hh, u1, u2, u3, u4, u5, u6⟩ := r3 k (by omega) hk
            obtain ⟨w1, w2, w3⟩ := a2 k (by omega) hk
            obtain ⟨w4, w5, w6⟩ := b2 k (by omega) hk
            have ey : gA (sI (sI MY 1 0) 61 (nI rows)) 1 = gA MX 6 := l4
            rw [ey] at w4 w5 w6
            exact ⟨a, c, hh, u1, u2, u3, w1.trans u4, w4.trans u4, w2.trans u5, w5.trans u5, w3.trans u6, w6.trans u6⟩
          · obtain ⟨o1, o2, o3, o4, o5, o6⟩ := h7
            exact ⟨o1.cg (xI 17 (by decide)) (by rw [b4]; rfl), o2.cg (xI 14 (by decide)) (yI 67 (by decide)) (xA 29 (by omega)) (yA 43 (by omega)), o3.cg (xA 30 (by omega)) (yA 27 (by omega)), o4.cg (xI 15 (by decide)) (xI 16 (by decide)) (yI 10 (by decide)) (yI 11 (by decide)), ⟨0, by omega, gI_at, by rw [b6, gI_ne (by decide), gI_at]; rfl, by rw [yA 1 (by omega)]; exact l4.trans (xA 6 (by omega)).symm, fun i hi => by omega⟩, o6.cg (xA 4 (by omega))⟩
        · exact bad _ (xr.trans r1) (yr.trans r2)
    · refine bad _ ?_ ?_
      · unfold fX5_read
        refine eq_f (by decide) (eq_e d3 ?_)
        by_cases z1 : nI (L / 3) < 1
        · exact eq_t z1 rfl
        · by_cases z2 : (16 : Int32) < nI (L / 3)
          · exact eq_f z1 (eq_t z2 rfl)
          · refine eq_f z1 (eq_f z2 (eq_f ?_ rfl))
            rw [l2, n3]
            exact fun z => by have := (nI_eq (by omega) (by omega)).mp z; omega
      · unfold fX12_see
        refine eq_e l3 (eq_n (eq_f lp (eq_f (by decide) (eq_f ?_ (s30 _)))))
        rw [show (3 : Int32) = nI 3 from rfl, rem_nI (by omega) (by decide)]
        exact nI_ne0 (by omega) (by omega)
end
section
/-! AN IMAGE ON BOTH SIDES -/
theorem shr8 {n : Nat} (h : n < 2 ^ 31) : nI n >>> ((8 : Int32) &&& 31) = nI (n / 256) := pk_shrN h _ 8 (by decide)
theorem and255 (n : Nat) : nI n &&& 255 = nI (n % 256) := by
  rw [show (255 : Int32) = nI 255 from rfl, nAnd, show 255 = 2 ^ 8 - 1 from rfl, Nat.and_two_pow_sub_one_eq_mod]
def ckN (bv : Nat → Nat) : Nat → Nat
  | 0 => 227
  | k + 1 => (5 * ckN bv k + bv k) % 251
theorem ckN_lt (bv : Nat → Nat) : ∀ k, ckN bv k < 251
  | 0 => (by decide : 227 < 251)
  | k + 1 => Nat.mod_lt _ (by decide)
theorem ck1 {bv : Nat → Nat} {k : Nat} (h : bv k < 256) : rem32 ((5 : Int32) * nI (ckN bv k) + nI (bv k)) 251 = nI (ckN bv (k + 1)) := by
  have := ckN_lt bv k
  rw [show (5 : Int32) = nI 5 from rfl, nI_mul, nI_add, show (251 : Int32) = nI 251 from rfl, rem_nI (by omega) (by decide)]
  rfl
theorem xck {n0 q0 n : Nat} {bv : Nat → Nat} {M : Mem} (hl : n ≤ LX.ln q0) (hl2 : LX.ln q0 ≤ 1600) (hb : ∀ j, j < n → gA M q0 j = nI (bv j) ∧ bv j < 256) : ∀ w k, k ≤ n → n < w + k → loopN (bX6_checkOf_6 n0 q0) (fun _ _ _ _ => none) w (nI n) (nI (ckN bv k)) (nI k) M = some (nI (ckN bv n), M)
  | 0, k, hk, hw => by omega
  | w + 1, k, hk, hw => by
    show bX6_checkOf_6 n0 q0 (loopN (bX6_checkOf_6 n0 q0) (fun _ _ _ _ => none) w) (nI n) (nI (ckN bv k)) (nI k) M = _
    unfold bX6_checkOf_6
    by_cases g : k = n
    · rw [g]
      exact eq_t (Int32.le_refl _) rfl
    · have ck : (nI k).toNatClampNeg = k := nI_clamp (by omega)
      refine eq_f (nI_ge (by omega) (by omega)) (eq_f (nI_ge (b := LX.ln q0) (by omega) (by omega)) (eq_f (nI_in (by omega) (by omega)) (eq_f (by decide) (eq_e (v' := nI (ckN bv (k + 1))) ?_ ?_))))
      · rw [ck, (hb k (by omega)).1, ck1 (hb k (by omega)).2]
      · rw [show nI k + 1 = nI (k + 1) from nI_add k 1]
        exact xck (n0 := n0) hl hl2 hb w (k + 1) (by omega) (by omega)
def ImR (n : Nat) (MX MY : Mem) : Prop := gI MY 67 = nI n ∧ ∀ k, k < n → ∃ v, v < 256 ∧ gA MX 29 k = nI v ∧ gA MY 43 k = nI v
def XIm (M M' : Mem) : Prop := gR M' = gR M ∧ gL M' = gL M ∧ gB M' = gB M ∧ gI M' = gI M ∧ ∀ a, ¬ a = 29 → gA M' a = gA M a
def YIm (M M' : Mem) : Prop := gR M' = gR M ∧ gL M' = gL M ∧ gB M' = gB M ∧ (∀ k, ¬ k = 67 → gI M' k = gI M k) ∧ ∀ a, ¬ a = 43 → gA M' a = gA M a
theorem XIm.r {M : Mem} : XIm M M := ⟨rfl, rfl, rfl, rfl, fun _ _ => rfl⟩
theorem XIm.tr {M M' M2 : Mem} (h : XIm M M') (g : XIm M' M2) : XIm M M2 := ⟨g.1.trans h.1, g.2.1.trans h.2.1, g.2.2.1.trans h.2.2.1, g.2.2.2.1.trans h.2.2.2.1, fun a z => (g.2.2.2.2 a z).trans (h.2.2.2.2 a z)⟩
theorem XIm.a {M M' : Mem} {i : Nat} {v : Int32} (h : XIm M M') : XIm M (sA M' 29 i v) := ⟨h.1, h.2.1, h.2.2.1, h.2.2.2.1, fun a z => (gA_sA_ne z).trans (h.2.2.2.2 a z)⟩
theorem YIm.r {M : Mem} : YIm M M := ⟨rfl, rfl, rfl, fun _ _ => rfl, fun _ _ => rfl⟩
theorem YIm.tr {M M' M2 : Mem} (h : YIm M M') (g : YIm M' M2) : YIm M M2 := ⟨g.1.trans h.1, g.2.1.trans h.2.1, g.2.2.1.trans h.2.2.1, fun a z => (g.2.2.2.1 a z).trans (h.2.2.2.1 a z), fun a z => (g.2.2.2.2 a z).trans (h.2.2.2.2 a z)⟩
theorem imp {n0 n v : Nat} {x : Int32} {M N : Mem} (h : ImR n M N) (hn : n < 24) (hv : v < 256) (hx : x &&& 255 = nI v) : ∃ N', fX12_writes n0 x N = some N' ∧ ImR (n + 1) (sA M 29 n (nI v)) N' ∧ YIm N N' := by
  have cn : (nI n).toNatClampNeg = n := nI_clamp (by omega)
  refine ⟨sI (sA N 43 n (nI v)) 67 (nI (n + 1)), ?_, ⟨gI_at, fun k hk => ?_⟩, ⟨rfl, rfl, rfl, fun k z => gI_ne z, fun a z => gA_sA_ne z⟩⟩
  · unfold fX12_writes
    refine eq_f (by rw [h.1]; exact nI_in (by omega) (by decide)) (eq_e (v' := sA N 43 n (nI v)) (by rw [h.1, cn, hx]) ?_)
    rw [gI_sA, h.1, show nI n + 1 = nI (n + 1) from nI_add n 1]
  · show ∃ v', v' < 256 ∧ gA (sA M 29 n (nI v)) 29 k = nI v' ∧ gA (sA N 43 n (nI v)) 43 k = nI v'
    rw [gA_sA, if_pos rfl, gA_sA, if_pos rfl]
    by_cases z : k = n
    · rw [if_pos z, if_pos z]
      exact ⟨v, hv, rfl, rfl⟩
    · rw [if_neg z, if_neg z]
      exact h.2 k (by omega)
theorem ln29 : LX.ln 29 = 24 := rfl
theorem ImR.wr {n v : Nat} {M N : Mem} (h : ImR n M N) {k : Nat} (hk : n ≤ k) (w : Int32) : ImR n (sA M 29 k w) N := ⟨h.1, fun j hj => by
  rw [gA_sA, if_pos rfl, if_neg (by omega)]
  exact h.2 j hj⟩
abbrev xiL (n0 : Nat) : Nat → Int32 → Int32 → Mem → Option (Int32 × Mem) := loopN (bX6_writeImage_36 n0 29) (fun _ _ _ => none)
abbrev yiL (n0 : Nat) : Nat → Int32 → Mem → Option (Int32 × Mem) := loopN (bX12_image_30 n0) (fun _ _ => none)
theorem thb {nt : Nat} {t : Int32} (h : tOk nt t) (hn : nt ≤ 6) : ∃ v, v < 256 ∧ t &&& 255 = nI v ∧ ((t = -1 ∧ v = 255) ∨ (¬ t = -1 ∧ t = nI v)) := by
  rcases h with h | ⟨k, hk, h⟩
  · exact ⟨255, by decide, by rw [h]; decide, Or.inl ⟨h, rfl⟩⟩
  · refine ⟨k, by omega, by rw [h, and255, Nat.mod_eq_of_lt (by omega)], Or.inr ⟨?_, h⟩⟩
    rw [h]
    exact nI_m1 (by omega)
theorem imC {n0 q b m : Nat} {T : TP} {pm : Nat → Int32 × Nat} {s : Nat × List (Nat × Nat)} {MX MY : Mem} {x2 : Int32} (hT : XT n0 q T MX) (hY : YT n0 b T MY) (hS : SX q T.nc T.nd m pm s MX) (hL : LyD 0 T.nc m pm s MY) (hO : PsO T.nt T.nc pm) : ∀ w c M N, c ≤ T.nc → T.nc < w + c → ImR (2 + 3 * c) M N → XIm MX M → YIm MY N → ∃ M' N', xiL n0 w x2 (nI c) M = fX6_writeImage_119 n0 29 x2 0 M' ∧ yiL n0 w (nI c) N = fX12_image_84 n0 0 N' ∧ ImR (2 + 3 * T.nc) M' N' ∧ XIm MX M' ∧ YIm MY N'
  | 0, c, M, N, hc, hw, _, _, _ => by omega
  | w + 1, c, M, N, hc, hw, hI, hx, hy => by
    show ∃ M' N', bX6_writeImage_36 n0 29 (xiL n0 w) x2 (nI c) M = _ ∧ bX12_image_30 n0 (yiL n0 w) (nI c) N = _ ∧ _
    obtain ⟨o1, o2, o3, _⟩ := hT.2.1
    have hb := hY.2.2.1
    have q5 : gI M (128 * gR M 1280 + 5) = nI T.nc := by rw [hx.1, hS.2.1, hx.2.2.2.1]; exact hT.2.2.1
    have i13 : gI N 13 = nI b := (hy.2.2.2.1 13 (by decide)).trans hY.2.2.2.1
    have o13 : ¬ oob (gI N 13) 2 := by rw [i13]; exact nI_in (by omega) (by decide)
    have y5 : gA N 5 (gI N 13).toNatClampNeg = nI T.nc := by rw [i13, nI_clamp (by omega), hy.2.2.2.2 5 (by decide)]; exact hY.2.2.2.2.2.1
    unfold bX6_writeImage_36 bX12_image_30
    by_cases g : c = T.nc
    · subst g
      exact ⟨M, N, eq_t (by rw [q5]; exact Int32.le_refl _) rfl, eq_f o13 (eq_t (by rw [y5]; exact Int32.le_refl _) rfl), hI, hx, hy⟩
    · have hcn : c < T.nc := by omega
      have cc : (nI c).toNatClampNeg = c := nI_clamp (by omega)
      have px := hS.2.2.2.1 c hcn
      have py := hL.1.2 c hcn
      rw [show 5 * 0 + c = c by omega] at py
      have ok := hO c hcn
      have ok2 := ok.2
      obtain ⟨v, v1, v2, v3⟩ := thb ok.1 o1
      obtain ⟨N1, a1, a2, a3⟩ := imp (n0 := n0) hI (by omega) v1 v2
      obtain ⟨N2, b1, b2, b3⟩ := imp (n0 := n0) (v := (pm c).2 / 256) (x := nI (pm c).2 >>> ((8 : Int32) &&& 31)) a2 (by omega) (by omega) (by rw [shr8 (by omega), and255, Nat.mod_eq_of_lt (by omega)])
      obtain ⟨N3, c1, c2, c3⟩ := imp (n0 := n0) (v := (pm c).2 % 256) (x := nI (pm c).2) b2 (by omega) (by omega) (and255 _)
      have fy := hy.tr (a3.tr (b3.tr c3))
      have fx := ((hx.a (i := 2 + 3 * c) (v := nI v)).a (i := 2 + 3 * c + 1) (v := nI ((pm c).2 / 256))).a (i := 2 + 3 * c + 1 + 1) (v := nI ((pm c).2 % 256))
      obtain ⟨M', N', r1, r2, r3, r4, r5⟩ := imC (x2 := x2) hT hY hS hL hO w (c + 1) _ N3 (by omega) (by omega) (show ImR (2 + 3 * (c + 1)) _ _ from c2) fx fy
      have k1 : nI c + 1 = nI (c + 1) := nI_add c 1
      have ix : (2 : Int32) + 3 * nI c = nI (2 + 3 * c) := by rw [n3, show (2 : Int32) = nI 2 from rfl, nI_add]
      have x79 : ∀ M0 : Mem, M0 = M → fX6_writeImage_79 n0 29 (xiL n0 w) x2 (nI c) (nI (2 + 3 * c)) (nI (2 + 3 * c)) (nI v) M0 = xiL n0 w x2 (nI (c + 1)) (sA (sA (sA M 29 (2 + 3 * c) (nI v)) 29 (2 + 3 * c + 1) (nI ((pm c).2 / 256))) 29 (2 + 3 * c + 1 + 1) (nI ((pm c).2 % 256))) := fun M0 e0 => by
        subst e0
        have d0 : (nI (2 + 3 * c)).toNatClampNeg = 2 + 3 * c := nI_clamp (by omega)
        have d1 : (nI (2 + 3 * c + 1)).toNatClampNeg = 2 + 3 * c + 1 := nI_clamp (by omega)
        have d2 : (nI (2 + 3 * c + 2)).toNatClampNeg = 2 + 3 * c + 2 := nI_clamp (by omega)
        have j1 : nI (2 + 3 * c) + 1 = nI (2 + 3 * c + 1) := nI_add _ 1
        have j2 : nI (2 + 3 * c) + 2 = nI (2 + 3 * c + 2) := nI_add _ 2
        have h12 : gA M0 12 c = nI (pm c).2 := by rw [hx.2.2.2.2 12 (by decide)]; exact px.2
        unfold fX6_writeImage_79
        rw [ln29]
        simp only [cc, d0, j1, d1, j2, d2]
        refine eq_f (nI_in (by omega) (by decide)) (eq_n (eq_f (nI_in (by omega) (by decide)) (eq_f (nI_in (by omega) (by decide)) (eq_e (v' := sA (sA M0 29 (2 + 3 * c) (nI v)) 29 (2 + 3 * c + 1) (nI ((pm c).2 / 256))) ?_ (eq_f (nI_in (by omega) (by decide)) (eq_f (nI_in (by omega) (by decide)) (eq_e (v' := sA (sA (sA M0 29 (2 + 3 * c) (nI v)) 29 (2 + 3 * c + 1) (nI ((pm c).2 / 256))) 29 (2 + 3 * c + 1 + 1) (nI ((pm c).2 % 256))) ?_ ?_)))))))
        · rw [gA_sA_ne (by decide), h12, shr8 (by omega)]
        · rw [gA_sA_ne (by decide), gA_sA_ne (by decide), h12, and255]
        · rw [k1]
      refine ⟨M', N', ?_, ?_, r3, r4, r5⟩
      · refine eq_f (by rw [q5]; exact nI_ge hcn (by omega)) (eq_e ix (eq_f (nI_in (by omega) (by decide)) ?_))
        rw [show gA M 11 (nI c).toNatClampNeg = (pm c).1 by rw [cc, hx.2.2.2.2 11 (by decide), px.1]]
        rcases v3 with ⟨z1, z2⟩ | ⟨z1, z2⟩
        · refine eq_t z1 ?_
          subst z2
          exact (x79 M rfl).trans r1
        · refine eq_f z1 (eq_f (nI_in (by omega) (by decide)) ?_)
          rw [z2]
          exact (x79 M rfl).trans r1
      · refine eq_f o13 (eq_f (by rw [y5]; exact nI_ge hcn (by omega)) (eq_f (nI_in (by omega) (by decide)) (eq_b (z := N1) ?_ (eq_f (nI_in (by omega) (by decide)) (eq_b (z := N2) ?_ (eq_f (nI_in (by omega) (by decide)) (eq_b (z := N3) ?_ ?_)))))))
        · rw [cc, hy.2.2.2.2 29 (by decide), py.1]; exact a1
        · rw [cc, (hy.tr a3).2.2.2.2 30 (by decide), py.2]; exact b1
        · rw [cc, (hy.tr (a3.tr b3)).2.2.2.2 30 (by decide), py.2]; exact c1
        · rw [k1]; exact r2
abbrev xiD (n0 : Nat) : Nat → Int32 → Int32 → Mem → Option (Int32 × Mem) := loopN (bX6_writeImage_119 n0 29) (fun _ _ _ => none)
abbrev yiD (n0 : Nat) : Nat → Int32 → Mem → Option (Int32 × Mem) := loopN (bX12_image_84 n0) (fun _ _ => none)
theorem imD {n0 q b m : Nat} {T : TP} {pm : Nat → Int32 × Nat} {s : Nat × List (Nat × Nat)} {MX MY : Mem} {x2 : Int32} (hT : XT n0 q T MX) (hY : YT n0 b T MY) (hS : SX q T.nc T.nd m pm s MX) (hL : LyD 0 T.nc m pm s MY) (hs : sOk T.nd s) : ∀ w d M N, d ≤ T.nd → T.nd < w + d → ImR (2 + 3 * T.nc + d) M N → XIm MX M → YIm MY N → ∃ M' N', xiD n0 w x2 (nI d) M = ((fX6_checkOf n0 29 (x2 - (1 : Int32)) M').bind fun z165 =>
    if oob (x2 - (1 : Int32)) (LX.ln 29) then none else
    bnd (sA z165.2 29 (Int32.toNatClampNeg (x2 - (1 : Int32))) z165.1) fun M168 =>
    some (x2, M168)) ∧ yiD n0 w (nI d) N = fX12_image_131 n0 227 0 N' ∧ ImR (2 + 3 * T.nc + T.nd) M' N' ∧ XIm MX M' ∧ YIm MY N'
  | 0, d, M, N, hd, hw, _, _, _ => by omega
  | w + 1, d, M, N, hd, hw, hI, hx, hy => by
    show ∃ M' N', bX6_writeImage_119 n0 29 (xiD n0 w) x2 (nI d) M = _ ∧ bX12_image_84 n0 (yiD n0 w) (nI d) N = _ ∧ _
    obtain ⟨o1, o2, o3, _⟩ := hT.2.1
    have hb := hY.2.2.1
    have q12 : gI M (128 * gR M 1280 + 12) = nI T.nd := by rw [hx.1, hS.2.1, hx.2.2.2.1]; exact hT.2.2.2.1
    have q5 : gI M (128 * gR M 1280 + 5) = nI T.nc := by rw [hx.1, hS.2.1, hx.2.2.2.1]; exact hT.2.2.1
    have i13 : gI N 13 = nI b := (hy.2.2.2.1 13 (by decide)).trans hY.2.2.2.1
    have o13 : ¬ oob (gI N 13) 2 := by rw [i13]; exact nI_in (by omega) (by decide)
    have y10 : gA N 10 (gI N 13).toNatClampNeg = nI T.nd := by rw [i13, nI_clamp (by omega), hy.2.2.2.2 10 (by decide)]; exact hY.2.2.2.2.2.2.1
    have s64 : s.1 < 64 := Nat.lt_of_lt_of_le hs.1 (p64 o3)
    unfold bX6_writeImage_119 bX12_image_84
    by_cases g : d = T.nd
    · subst g
      exact ⟨M, N, eq_t (by rw [q12]; exact Int32.le_refl _) rfl, eq_f o13 (eq_t (by rw [y10]; exact Int32.le_refl _) rfl), hI, hx, hy⟩
    · have hdn : d < T.nd := by omega
      have cd : (nI d).toNatClampNeg = d := nI_clamp (by omega)
      have b2 : s.1 / 2 ^ d % 2 < 2 := Nat.mod_lt _ (by decide)
      have d13 := hS.2.2.2.2.1 d hdn
      obtain ⟨N1, a1, a2, a3⟩ := imp (n0 := n0) (v := s.1 / 2 ^ d % 2) (x := nI (s.1 / 2 ^ d % 2)) hI (by omega) (by omega) (by rw [and255, Nat.mod_eq_of_lt (by omega)])
      obtain ⟨M', N', r1, r2, r3, r4, r5⟩ := imD (x2 := x2) hT hY hS hL hs w (d + 1) _ N1 (by omega) (by omega) (show ImR (2 + 3 * T.nc + (d + 1)) _ _ from a2) hx.a (hy.tr a3)
      have k1 : nI d + 1 = nI (d + 1) := nI_add d 1
      have ix : (2 : Int32) + 3 * gI M (128 * gR M 1280 + 5) + nI d = nI (2 + 3 * T.nc + d) := by rw [q5, n3, show (2 : Int32) = nI 2 from rfl, nI_add, nI_add]
      refine ⟨M', N', eq_f (by rw [q12]; exact nI_ge hdn (by omega)) (eq_f (nI_in (by omega) (by decide)) (eq_f ?_ (eq_e (v' := sA M 29 (2 + 3 * T.nc + d) (nI (s.1 / 2 ^ d % 2))) ?_ ?_))), eq_f o13 (eq_f (by rw [y10]; exact nI_ge hdn (by omega)) (eq_f (by decide) (eq_b (z := (bI (s.1 / 2 ^ d % 2 = 1), N)) ?_ ?_))), r3, r4, r5⟩
      · rw [ix, ln29]; exact nI_in (by omega) (by decide)
      · rw [ix, nI_clamp (by omega), cd, hx.2.2.2.2 13 (by decide), d13]
      · rw [k1]; exact r1
      · rw [show gA N 31 (Int32.toNatClampNeg 0) = nI s.1 by rw [hy.2.2.2.2 31 (by decide)]; exact hL.2.1]
        exact yhas2 s64 (by omega)
      · have st : ∀ u, u = nI (s.1 / 2 ^ d % 2) → fX12_image_116 n0 (yiD n0 w) (nI d) u N = fX12_image_131 n0 227 0 N' := fun u e => by
          unfold fX12_image_116
          rw [e, k1]
          exact eq_b a1 r2
        by_cases z : s.1 / 2 ^ d % 2 = 1
        · exact eq_f (show ¬ bI (s.1 / 2 ^ d % 2 = 1) = 0 by rw [bI_t z]; decide) (st 1 (by rw [z]; rfl))
        · exact eq_t (show bI (s.1 / 2 ^ d % 2 = 1) = 0 from bI_f z) (st 0 (by rw [show s.1 / 2 ^ d % 2 = 0 by omega]; rfl))
theorem yck {n0 n : Nat} {bv : Nat → Nat} {N : Mem} (hn : n ≤ 24) (h67 : gI N 67 = nI n) (hb : ∀ j, j < n → gA N 43 j = nI (bv j) ∧ bv j < 256) : ∀ w k, k ≤ n → n < w + k → loopN (bX12_image_131 n0) (fun _ _ _ => none) w (nI (ckN bv k)) (nI k) N = (fX12_writes n0 (nI (ckN bv n)) N).bind (fun z162 => some ((gI z162 67), z162))
  | 0, k, hk, hw => by omega
  | w + 1, k, hk, hw => by
    show bX12_image_131 n0 (loopN (bX12_image_131 n0) (fun _ _ _ => none) w) (nI (ckN bv k)) (nI k) N = _
    unfold bX12_image_131
    by_cases g : k = n
    · rw [g]
      exact eq_t (by rw [h67]; exact Int32.le_refl _) rfl
    · have ck : (nI k).toNatClampNeg = k := nI_clamp (by omega)
      refine eq_f (by rw [h67]; exact nI_ge (by omega) (by omega)) (eq_f (nI_in (by omega) (by decide)) (eq_f (by decide) (eq_e (v' := nI (ckN bv (k + 1))) ?_ ?_)))
      · rw [ck, (hb k (by omega)).1, ck1 (hb k (by omega)).2]
      · rw [show nI k + 1 = nI (k + 1) from nI_add k 1]
        exact yck (n0 := n0) hn h67 hb w (k + 1) (by omega) (by omega)
theorem cImage {n0 : Nat} {MX MY : Mem} (hn : 1700 ≤ n0) (h : R n0 MX MY) : Cal n0 (fX11_image n0 MX) (fX12_image n0 MY) := by
  obtain ⟨q, b, T, nr, C, m, pm, s, h⟩ := h
  obtain ⟨h1, h2, h3, h4, h5, h6, h7⟩ := id h
  obtain ⟨o1, o2, o3, _⟩ := h1.2.2.2.1.2.1
  have hm := h2.1
  have hx := h1.2.2.2.1
  have hy := h1.2.2.2.2.1
  -- the minute
  have I0 : ImR 0 MX (sI MY 67 0) := ⟨gI_at, fun k hk => by omega⟩
  obtain ⟨N1, a1, a2, a3⟩ := imp (n0 := n0) (v := m / 256) (x := nI m >>> ((8 : Int32) &&& 31)) I0 (by decide) (by omega) (by rw [shr8 (by omega), and255, Nat.mod_eq_of_lt (by omega)])
  obtain ⟨N2, b1, b2, b3⟩ := imp (n0 := n0) (v := m % 256) (x := nI m) a2 (by decide) (by omega) (and255 _)
  have y0 : YIm MY (sI MY 67 0) := ⟨rfl, rfl, rfl, fun k z => gI_ne z, fun _ _ => rfl⟩
  have y2 := y0.tr (a3.tr b3)
  obtain ⟨M3, N3, c1, c2, c3, c4, c5⟩ := imC (n0 := n0) (x2 := nI (2 + 3 * T.nc + T.nd + 1)) hx hy h3 h4 h2.2.1 n0 0 _ N2 (by omega) (by omega) b2 (XIm.r.a.a) y2
  obtain ⟨M4, N4, d1, d2, d3, d4, d5⟩ := imD (n0 := n0) (x2 := nI (2 + 3 * T.nc + T.nd + 1)) hx hy h3 h4 h2.2.2 n0 0 M3 N3 (by omega) (by omega) c3 c4 c5
  have bvx : ∀ j, j < 2 + 3 * T.nc + T.nd → gA M4 29 j = nI ((gA M4 29 j).toNatClampNeg) ∧ (gA M4 29 j).toNatClampNeg < 256 := fun j hj => by
    obtain ⟨v, v1, v2, _⟩ := d3.2 j hj
    rw [v2, nI_clamp (by omega)]
    exact ⟨rfl, v1⟩
  have bvy : ∀ j, j < 2 + 3 * T.nc + T.nd → gA N4 43 j = nI ((gA M4 29 j).toNatClampNeg) ∧ (gA M4 29 j).toNatClampNeg < 256 := fun j hj => by
    obtain ⟨v, v1, v2, v3⟩ := d3.2 j hj
    rw [v2, nI_clamp (by omega), v3]
    exact ⟨rfl, v1⟩
  have ckl := ckN_lt (fun j => (gA M4 29 j).toNatClampNeg) (2 + 3 * T.nc + T.nd)
  have e1 : fX6_checkOf n0 29 (nI (2 + 3 * T.nc + T.nd)) M4 = some (nI (ckN (fun j => (gA M4 29 j).toNatClampNeg) (2 + 3 * T.nc + T.nd)), M4) := xck (by rw [ln29]; omega) (by rw [ln29]; decide) bvx n0 0 (by omega) (by omega)
  have e2 := yck (n0 := n0) (n := 2 + 3 * T.nc + T.nd) (N := N4) (by omega) d3.1 bvy n0 0 (by omega) (by omega)
  obtain ⟨N5, f1, f2, f3⟩ := imp (n0 := n0) (v := ckN (fun j => (gA M4 29 j).toNatClampNeg) (2 + 3 * T.nc + T.nd)) (x := nI (ckN (fun j => (gA M4 29 j).toNatClampNeg) (2 + 3 * T.nc + T.nd))) d3 (by omega) (by omega) (by rw [and255, Nat.mod_eq_of_lt (by omega)])
  have sz : nI (2 + 3 * T.nc + T.nd + 1) - 1 = nI (2 + 3 * T.nc + T.nd) := nIs _
  have fx := d4.a (i := 2 + 3 * T.nc + T.nd) (v := nI (ckN (fun j => (gA M4 29 j).toNatClampNeg) (2 + 3 * T.nc + T.nd)))
  have fy := d5.tr f3
  refine ⟨nI (2 + 3 * T.nc + T.nd + 1), sI (sA M4 29 (2 + 3 * T.nc + T.nd) (nI (ckN (fun j => (gA M4 29 j).toNatClampNeg) (2 + 3 * T.nc + T.nd)))) 14 (nI (2 + 3 * T.nc + T.nd + 1)), N5, ?_, ?_, q, b, T, nr, C, m, pm, s, h.ou ⟨fx.1, fun k z => by rw [gI_ne (by omega), fx.2.2.2.1], fun a z => fx.2.2.2.2 a (by omega)⟩ ⟨fun k z => fy.2.2.2.1 k (by omega), fun a z => fy.2.2.2.2 a (by omega), fy.2.2.1⟩ ?_⟩
  · unfold fX11_image
    refine eq_b (z := (nI (2 + 3 * T.nc + T.nd + 1), sA M4 29 (2 + 3 * T.nc + T.nd) (nI (ckN (fun j => (gA M4 29 j).toNatClampNeg) (2 + 3 * T.nc + T.nd))))) ?_ (eq_n (by rw [gI_at]))
    unfold fX6_writeImage fX6_imageSize
    have q5 : gI MX (128 * gR MX 1280 + 5) = nI T.nc := by rw [h3.2.1]; exact hx.2.2.1
    have q12 : gI MX (128 * gR MX 1280 + 12) = nI T.nd := by rw [h3.2.1]; exact hx.2.2.2.1
    have ez : (2 : Int32) + 3 * gI MX (128 * gR MX 1280 + 5) + gI MX (128 * gR MX 1280 + 12) + 1 = nI (2 + 3 * T.nc + T.nd + 1) := by
      rw [q5, q12, n3, show (2 : Int32) = nI 2 from rfl, nI_add, nI_add]
      exact nI_add _ 1
    rw [ez, ln29]
    refine eq_b rfl (eq_t (nI_le (b := 24) (by omega) (by decide)) (eq_f (by decide) (eq_e (v' := sA MX 29 0 (nI (m / 256))) ?_ (eq_f (by decide) (eq_e (v' := sA (sA MX 29 0 (nI (m / 256))) 29 (0 + 1) (nI (m % 256))) ?_ ?_)))))
    · show sA MX 29 0 (gI MX 1281 >>> ((8 : Int32) &&& 31)) = _
      rw [h3.2.2.1, shr8 (by omega)]
    · show sA (sA MX 29 0 (nI (m / 256))) 29 1 (gI MX 1281 &&& 255) = _
      rw [h3.2.2.1, and255]
    · refine Eq.trans c1 (Eq.trans d1 ?_)
      rw [sz, ln29]
      refine eq_b e1 (eq_f (nI_in (by omega) (by decide)) (eq_e (v' := sA M4 29 (2 + 3 * T.nc + T.nd) (nI (ckN (fun j => (gA M4 29 j).toNatClampNeg) (2 + 3 * T.nc + T.nd)))) ?_ rfl))
      rw [nI_clamp (by omega)]
  · unfold fX12_image
    refine eq_n (eq_f (by decide) (eq_b (z := N1) ?_ (eq_f (by decide) (eq_b (z := N2) ?_ (Eq.trans c2 (Eq.trans d2 (Eq.trans e2 (eq_b f1 ?_))))))))
    · rw [show gA (sI MY 67 0) 28 (Int32.toNatClampNeg 0) = nI m from h4.1.1]; exact a1
    · rw [show gA N1 28 (Int32.toNatClampNeg 0) = nI m by rw [(y0.tr a3).2.2.2.2 28 (by decide)]; exact h4.1.1]; exact b1
    · rw [f2.1]
  · obtain ⟨p1, p2, p3, p4, p5, p6⟩ := h7
    refine ⟨p1.cg (by rw [gI_ne (by decide), fx.2.2.2.1]) (by rw [fy.2.1]), ⟨2 + 3 * T.nc + T.nd + 1, by omega, gI_at, f2.1, fun k hk => ?_⟩, p3.cg (fx.2.2.2.2 30 (by decide)) (fy.2.2.2.2 27 (by decide)), p4.cg (by rw [gI_ne (by decide), fx.2.2.2.1]) (by rw [gI_ne (by decide), fx.2.2.2.1]) (fy.2.2.2.1 10 (by decide)) (fy.2.2.2.1 11 (by decide)), p5.cg (by rw [gI_ne (by decide), fx.2.2.2.1]) (fy.2.2.2.1 1 (by decide)) (fx.2.2.2.2 6 (by decide)) (fy.2.2.2.2 1 (by decide)), p6.cg (fx.2.2.2.2 4 (by decide))⟩
    obtain ⟨v, _, v2, v3⟩ := f2.2 k hk
    exact v2.trans v3.symm
end
section
/-! ON: an image is read on both sides -/
theorem nOr (a b : Nat) : nI a ||| nI b = nI (a ||| b) := by
  apply Int32.toBitVec_inj.1
  show BitVec.ofNat 32 a ||| BitVec.ofNat 32 b = BitVec.ofNat 32 (a ||| b)
  exact BitVec.ofNat_or.symm
theorem pair8 {a c : Nat} (ha : a ≤ 255) (hc : c ≤ 255) : (nI a <<< ((8 : Int32) &&& 31)) ||| nI c = nI (256 * a + c) := by
  rw [pk_shlN _ 8 (by decide) (by omega), nOr, Nat.mul_comm]
  congr 1
  exact (Nat.two_pow_add_eq_or_of_lt (i := 8) (show c < 2 ^ 8 by omega) a).symm
theorem bt_on1 : ∀ d, d < 6 → ∀ D, D < 64 → D < 2 ^ d → ∀ v, v < 2 → (nI D ||| (nI v <<< (nI d &&& 31)) = nI (D + v * 2 ^ d)) := by decide +kernel
theorem bt_on2 : ∀ d, d < 6 → ∀ D, D < 64 → D < 2 ^ d → ∀ v, v < 2 → D + v * 2 ^ d < 2 ^ (d + 1) := by decide +kernel
theorem bt_on3 : ∀ d, d < 6 → ∀ D, D < 64 → D < 2 ^ d → ∀ v, v < 2 → (D + v * 2 ^ d) / 2 ^ d % 2 = v := by decide +kernel
theorem bt_on4 : ∀ d, d < 6 → ∀ D, D < 64 → ∀ v, v < 2 → ∀ e, e < d → (D + v * 2 ^ d) / 2 ^ e % 2 = D / 2 ^ e % 2 := by decide +kernel
def Dn (f : Nat → Nat) : Nat → Nat
  | 0 => 0
  | d + 1 => Dn f d + f d * 2 ^ d
theorem Dn_ok {f : Nat → Nat} {n : Nat} (hn : n ≤ 6) (hf : ∀ d, d < n → f d ≤ 1) : ∀ d, d ≤ n → Dn f d < 2 ^ d ∧ ∀ e, e < d → Dn f d / 2 ^ e % 2 = f e
  | 0, _ => ⟨Nat.zero_lt_one, fun e he => by omega⟩
  | d + 1, hd => by
    obtain ⟨a1, a2⟩ := Dn_ok hn hf d (by omega)
    have p := p64 (n := d) (by omega)
    have h1 := hf d (by omega)
    have b2 := bt_on2 d (by omega) (Dn f d) (by omega) a1 (f d) (by omega)
    have b3 := bt_on3 d (by omega) (Dn f d) (by omega) a1 (f d) (by omega)
    have b4 := bt_on4 d (by omega) (Dn f d) (by omega) (f d) (by omega)
    refine ⟨b2, fun e he => ?_⟩
    by_cases z : e = d
    · rw [z]; exact b3
    · exact (b4 e (by omega)).trans (a2 e (by omega))
/-- bytes of a tape -/
def Bv (t : Nat → Int32) (bv : Nat → Nat) (L : Nat) : Prop := ∀ i, i < L → t i = nI (bv i) ∧ bv i ≤ 255
theorem byt_bv {t : Nat → Int32} {L : Nat} (h : Byt t L) : Bv t (fun i => (t i).toNatClampNeg) L := fun i hi => by
  obtain ⟨v, v1, v2⟩ := byt_v h hi
  dsimp only
  rw [v2, nI_clamp (by omega)]
  exact ⟨rfl, v1⟩
theorem xatb {n0 L i : Nat} {bv : Nat → Nat} {M : Mem} (hL : gI M 641 = nI L) (h16 : L ≤ 1600) (hb : Bv (gA M 6) bv L) (hi : i < L) : fX7_at n0 (nI i) M = some (nI (bv i), M) := by rw [xat hL h16 hi, (hb i hi).1]
theorem xpair {n0 L i : Nat} {bv : Nat → Nat} {M : Mem} (hL : gI M 641 = nI L) (h16 : L ≤ 1600) (hb : Bv (gA M 6) bv L) (hi : i + 1 < L) : fX7_pairAt n0 (nI i) M = some (nI (256 * bv i + bv (i + 1)), M) := by
  unfold fX7_pairAt
  refine eq_b (xatb hL h16 hb (by omega)) (eq_b (z := (nI (bv (i + 1)), M)) ?_ ?_)
  · rw [show nI i + 1 = nI (i + 1) from nI_add i 1]
    exact xatb hL h16 hb hi
  · show some ((256 : Int32) * nI (bv i) + nI (bv (i + 1)), M) = _
    rw [show (256 : Int32) = nI 256 from rfl, nI_mul, nI_add]
def okC (bv : Nat → Nat) (nt c : Nat) : Prop := (bv (2 + 3 * c) = 255 ∨ bv (2 + 3 * c) < nt) ∧ 256 * bv (3 + 3 * c) + bv (4 + 3 * c) ≤ 999
abbrev xoC (n0 : Nat) : Nat → Int32 → Int32 → Mem → Option (Int32 × Mem) := loopN (bX6_isImage_28 n0) (fun _ _ _ => none)
theorem xon28 {n0 q L : Nat} {T : TP} {bv : Nat → Nat} {M : Mem} {x2 : Int32} (hT : XT n0 q T M) (hq : gR M 1280 = q) (hL : gI M 641 = nI L) (h16 : L ≤ 1600) (hb : Bv (gA M 6) bv L) (hs : L = 2 + 3 * T.nc + T.nd + 1) : ∀ w c, c ≤ T.nc → T.nc < w + c → (xoC n0 w x2 (nI c) M = fX6_isImage_107 n0 x2 0 M ∧ ∀ j, c ≤ j → j < T.nc → okC bv T.nt j) ∨ (xoC n0 w x2 (nI c) M = some (0, M) ∧ ¬ ∀ j, c ≤ j → j < T.nc → okC bv T.nt j)
  | 0, c, hc, hw => by omega
  | w + 1, c, hc, hw => by
    show (bX6_isImage_28 n0 (xoC n0 w) x2 (nI c) M = _ ∧ _) ∨ (bX6_isImage_28 n0 (xoC n0 w) x2 (nI c) M = _ ∧ _)
    obtain ⟨o1, o2, o3, _⟩ := hT.2.1
    have q5 : gI M (128 * gR M 1280 + 5) = nI T.nc := by rw [hq]; exact hT.2.2.1
    unfold bX6_isImage_28
    by_cases g : c = T.nc
    · exact Or.inl ⟨eq_t (by rw [q5, g]; exact Int32.le_refl _) rfl, fun j h1 h2 => by omega⟩
    · have hcn : c < T.nc := by omega
      have st : ¬ gI M (128 * gR M 1280 + 5) ≤ nI c := by rw [q5]; exact nI_ge hcn (by omega)
      have ix : (2 : Int32) + 3 * nI c = nI (2 + 3 * c) := by rw [n3, show (2 : Int32) = nI 2 from rfl, nI_add]
      have ix3 : (3 : Int32) + 3 * nI c = nI (3 + 3 * c) := by rw [n3, show (3 : Int32) = nI 3 from rfl, nI_add]
      have a1 := xatb (n0 := n0) hL h16 hb (i := 2 + 3 * c) (by omega)
      have a2 := xpair (n0 := n0) hL h16 hb (i := 3 + 3 * c) (by omega)
      have b0 := (hb (2 + 3 * c) (by omega)).2
      have b1 := (hb (3 + 3 * c) (by omega)).2
      have b2 := (hb (3 + 3 * c + 1) (by omega)).2
      have e4 : 3 + 3 * c + 1 = 4 + 3 * c := by omega
      rw [e4] at a2 b2
      have k1 : nI c + 1 = nI (c + 1) := nI_add c 1
      rw [ix]
      by_cases g1 : bv (2 + 3 * c) = 255 ∨ bv (2 + 3 * c) < T.nt
      · have go : ∀ r, fX6_isImage_70 n0 (xoC n0 w) x2 (nI c) M = r → (fX7_at n0 (nI (2 + 3 * c)) M).bind (fun z45 => if z45.1 = (255 : Int32) then fX6_isImage_70 n0 (xoC n0 w) x2 (nI c) z45.2 else (fX9_isThing n0 (gR z45.2 1280) z45.1 z45.2).bind fun z64 => if z64.1 = 0 then fX6_isImage_75 n0 (xoC n0 w) x2 (nI c) (0 : Int32) z64.2 else fX6_isImage_70 n0 (xoC n0 w) x2 (nI c) z64.2) = r := fun r hr => by
          refine eq_b a1 ?_
          by_cases g2 : bv (2 + 3 * c) = 255
          · exact eq_t (by rw [g2]; rfl) hr
          · refine eq_f (fun z => g2 ((nI_eq (b := 255) (by omega) (by decide)).mp z)) (eq_b (z := (1, M)) ?_ (eq_f (show ¬ (1 : Int32) = 0 by decide) hr))
            show fX9_isThing n0 (gR M 1280) (nI (bv (2 + 3 * c))) M = _
            rw [hq]
            exact xTht hT.1.2.2.1 o1 (g1.resolve_left g2)
        by_cases g3 : 256 * bv (3 + 3 * c) + bv (4 + 3 * c) ≤ 999
        · have sx : fX6_isImage_70 n0 (xoC n0 w) x2 (nI c) M = xoC n0 w x2 (nI (c + 1)) M := by
            unfold fX6_isImage_70 fX6_isImage_75
            rw [ix3, k1]
            exact eq_f (by decide) (eq_b a2 (eq_t (nI_le (b := 999) g3 (by decide)) rfl))
          rcases xon28 (x2 := x2) hT hq hL h16 hb hs w (c + 1) (by omega) (by omega) with ⟨r1, r2⟩ | ⟨r1, r2⟩
          · refine Or.inl ⟨eq_f st (go _ (sx.trans r1)), fun j h1 h2 => ?_⟩
            by_cases z : j = c
            · rw [z]; exact ⟨g1, g3⟩
            · exact r2 j (by omega) h2
          · exact Or.inr ⟨eq_f st (go _ (sx.trans r1)), fun z => r2 (fun j h1 h2 => z j (by omega) h2)⟩
        · refine Or.inr ⟨eq_f st (go _ ?_), fun z => g3 (z c (by omega) hcn).2⟩
          unfold fX6_isImage_70 fX6_isImage_75
          rw [ix3]
          exact eq_f (by decide) (eq_b a2 (eq_f (nI_ge (a := 999) (by omega) (by omega)) rfl))
      · refine Or.inr ⟨eq_f st (eq_b a1 (eq_f (fun z => g1 (Or.inl ((nI_eq (b := 255) (by omega) (by decide)).mp z))) (eq_b (z := (0, M)) ?_ (eq_t rfl ?_)))), fun z => g1 (z c (by omega) hcn).1⟩
        · show fX9_isThing n0 (gR M 1280) (nI (bv (2 + 3 * c))) M = _
          rw [hq]
          exact xThf hT.1.2.2.1 (Or.inr (nI_le (by omega) (by omega)))
        · unfold fX6_isImage_75
          exact eq_t rfl rfl
abbrev xoD (n0 : Nat) : Nat → Int32 → Int32 → Mem → Option (Int32 × Mem) := loopN (bX6_isImage_107 n0) (fun _ _ _ => none)
theorem xon107 {n0 q L : Nat} {T : TP} {bv : Nat → Nat} {M : Mem} (hn : 1700 ≤ n0) (hT : XT n0 q T M) (hq : gR M 1280 = q) (hL : gI M 641 = nI L) (h16 : L ≤ 1600) (hb : Bv (gA M 6) bv L) (hs : L = 2 + 3 * T.nc + T.nd + 1) : ∀ w d, d ≤ T.nd → T.nd < w + d → (xoD n0 w (nI L) (nI d) M = some (1, M) ∧ (∀ j, d ≤ j → j < T.nd → bv (2 + 3 * T.nc + j) ≤ 1) ∧ bv (L - 1) = ckN bv (L - 1)) ∨ (xoD n0 w (nI L) (nI d) M = some (0, M) ∧ ¬ ((∀ j, d ≤ j → j < T.nd → bv (2 + 3 * T.nc + j) ≤ 1) ∧ bv (L - 1) = ckN bv (L - 1)))
  | 0, d, hd, hw => by omega
  | w + 1, d, hd, hw => by
    show (bX6_isImage_107 n0 (xoD n0 w) (nI L) (nI d) M = _ ∧ _) ∨ (bX6_isImage_107 n0 (xoD n0 w) (nI L) (nI d) M = _ ∧ _)
    obtain ⟨o1, o2, o3, _⟩ := hT.2.1
    have q5 : gI M (128 * gR M 1280 + 5) = nI T.nc := by rw [hq]; exact hT.2.2.1
    have q12 : gI M (128 * gR M 1280 + 12) = nI T.nd := by rw [hq]; exact hT.2.2.2.1
    have l1 : nI L - 1 = nI (L - 1) := by
      rw [show L = (L - 1) + 1 by omega]
      exact nIs _
    have ln6 : LX.ln 6 = 1600 := rfl
    unfold bX6_isImage_107
    by_cases g : d = T.nd
    · have e1 : fX6_checkOf n0 6 (nI (L - 1)) M = some (nI (ckN bv (L - 1)), M) := xck (by rw [ln6]; omega) (by rw [ln6]; decide) (fun j hj => ⟨(hb j (by omega)).1, by have := (hb j (by omega)).2; omega⟩) n0 0 (by omega) (by omega)
      have a1 := xatb (n0 := n0) hL h16 hb (i := L - 1) (by omega)
      have b1 := (hb (L - 1) (by omega)).2
      have c1 := ckN_lt bv (L - 1)
      rw [l1]
      by_cases z : bv (L - 1) = ckN bv (L - 1)
      · exact Or.inl ⟨eq_t (by rw [q12, g]; exact Int32.le_refl _) (eq_b a1 (eq_b e1 (eq_t (congrArg nI z) rfl))), fun j h1 h2 => by omega, z⟩
      · exact Or.inr ⟨eq_t (by rw [q12, g]; exact Int32.le_refl _) (eq_b a1 (eq_b e1 (eq_f (fun y => z ((nI_eq (by omega) (by omega)).mp y)) rfl))), fun y => z y.2⟩
    · have hdn : d < T.nd := by omega
      have st : ¬ gI M (128 * gR M 1280 + 12) ≤ nI d := by rw [q12]; exact nI_ge hdn (by omega)
      have ix : (2 : Int32) + 3 * gI M (128 * gR M 1280 + 5) + nI d = nI (2 + 3 * T.nc + d) := by rw [q5, n3, show (2 : Int32) = nI 2 from rfl, nI_add, nI_add]
      have a1 := xatb (n0 := n0) hL h16 hb (i := 2 + 3 * T.nc + d) (by omega)
      have b1 := (hb (2 + 3 * T.nc + d) (by omega)).2
      rw [ix]
      by_cases z : bv (2 + 3 * T.nc + d) ≤ 1
      · rcases xon107 hn hT hq hL h16 hb hs w (d + 1) (by omega) (by omega) with ⟨r1, r2, r3⟩ | ⟨r1, r2⟩
        · refine Or.inl ⟨eq_f st (eq_b a1 (eq_t (nI_le (b := 1) z (by decide)) ?_)), fun j h1 h2 => ?_, r3⟩
          · rw [show nI d + 1 = nI (d + 1) from nI_add d 1]; exact r1
          · by_cases y : j = d
            · rw [y]; exact z
            · exact r2 j (by omega) h2
        · refine Or.inr ⟨eq_f st (eq_b a1 (eq_t (nI_le (b := 1) z (by decide)) ?_)), fun y => r2 ⟨fun j h1 h2 => y.1 j (by omega) h2, y.2⟩⟩
          rw [show nI d + 1 = nI (d + 1) from nI_add d 1]; exact r1
      · exact Or.inr ⟨eq_f st (eq_b a1 (eq_f (nI_ge (a := 1) (by omega) (by omega)) rfl)), fun y => z (y.1 d (by omega) hdn)⟩
/-- an image of this town -/
def isIm (T : TP) (bv : Nat → Nat) (L : Nat) : Prop := L = 2 + 3 * T.nc + T.nd + 1 ∧ 256 * bv 0 + bv 1 ≤ 9999 ∧ (∀ j, j < T.nc → okC bv T.nt j) ∧ (∀ j, j < T.nd → bv (2 + 3 * T.nc + j) ≤ 1) ∧ bv (L - 1) = ckN bv (L - 1)
theorem xisIm {n0 q L : Nat} {T : TP} {bv : Nat → Nat} {M : Mem} (hn : 1700 ≤ n0) (hT : XT n0 q T M) (hq : gR M 1280 = q) (hL : gI M 641 = nI L) (h16 : L ≤ 1600) (hb : Bv (gA M 6) bv L) : (fX6_isImage n0 M = some (1, M) ∧ isIm T bv L) ∨ (fX6_isImage n0 M = some (0, M) ∧ ¬ isIm T bv L) := by
  obtain ⟨o1, o2, o3, _⟩ := hT.2.1
  have q5 : gI M (128 * gR M 1280 + 5) = nI T.nc := by rw [hq]; exact hT.2.2.1
  have q12 : gI M (128 * gR M 1280 + 12) = nI T.nd := by rw [hq]; exact hT.2.2.2.1
  have ez : (2 : Int32) + 3 * gI M (128 * gR M 1280 + 5) + gI M (128 * gR M 1280 + 12) + 1 = nI (2 + 3 * T.nc + T.nd + 1) := by
    rw [q5, q12, n3, show (2 : Int32) = nI 2 from rfl, nI_add, nI_add]
    exact nI_add _ 1
  unfold fX6_isImage fX6_imageSize
  rw [ez]
  by_cases g1 : L = 2 + 3 * T.nc + T.nd + 1
  · have a0 : fX7_pairAt n0 (nI 0) M = some (nI (256 * bv 0 + bv 1), M) := xpair (n0 := n0) hL h16 hb (i := 0) (by omega)
    have b0 := (hb 0 (by omega)).2
    have b1 := (hb 1 (by omega)).2
    have h1 : gI M 641 = nI (2 + 3 * T.nc + T.nd + 1) := by rw [hL, g1]
    by_cases g2 : 256 * bv 0 + bv 1 ≤ 9999
    · rw [← g1] at h1 ⊢
      rcases xon28 (n0 := n0) (x2 := nI L) hT hq hL h16 hb g1 n0 0 (by omega) (by omega) with ⟨r1, r2⟩ | ⟨r1, r2⟩
      · rcases xon107 hn hT hq hL h16 hb g1 n0 0 (by omega) (by omega) with ⟨s1, s2, s3⟩ | ⟨s1, s2⟩
        · exact Or.inl ⟨eq_b rfl (eq_t h1 (eq_b a0 (eq_t (nI_le (b := 9999) g2 (by decide)) (r1.trans s1)))), g1, g2, fun j hj => r2 j (by omega) hj, fun j hj => s2 j (by omega) hj, s3⟩
        · exact Or.inr ⟨eq_b rfl (eq_t h1 (eq_b a0 (eq_t (nI_le (b := 9999) g2 (by decide)) (r1.trans s1)))), fun y => s2 ⟨fun j _ hj => y.2.2.2.1 j hj, y.2.2.2.2⟩⟩
      · exact Or.inr ⟨eq_b rfl (eq_t h1 (eq_b a0 (eq_t (nI_le (b := 9999) g2 (by decide)) r1))), fun y => r2 (fun j _ hj => y.2.2.1 j hj)⟩
    · exact Or.inr ⟨eq_b rfl (eq_t h1 (eq_b a0 (eq_f (nI_ge (a := 9999) (by omega) (by omega)) rfl))), fun y => g2 y.2.1⟩
  · exact Or.inr ⟨eq_b rfl (eq_f (by rw [hL]; exact fun z => g1 ((nI_eq (by omega) (by omega)).mp z)) rfl), fun y => g1 y.1⟩
/-- what an image tells of a palm -/
def pIm (bv : Nat → Nat) : Nat → Int32 × Nat := fun c => (if bv (2 + 3 * c) = 255 then -1 else nI (bv (2 + 3 * c)), 256 * bv (3 + 3 * c) + bv (4 + 3 * c))
abbrev xrC (n0 : Nat) : Nat → Int32 → Mem → Option Mem := loopN (bX6_readImage_16 n0) (fun _ _ => none)
abbrev xrD (n0 : Nat) : Nat → Int32 → Mem → Option Mem := loopN (bX6_readImage_78 n0) (fun _ _ => none)
theorem xrd78 {n0 nc nd L : Nat} {bv : Nat → Nat} (h5 : nc ≤ 5) (h6 : nd ≤ 6) (h16 : L ≤ 1600) (hs : L = 2 + 3 * nc + nd + 1) : ∀ w d M, d ≤ nd → nd < w + d → gI M (128 * gR M 1280 + 5) = nI nc → gI M (128 * gR M 1280 + 12) = nI nd → gI M 641 = nI L → Bv (gA M 6) bv L → ∃ M', xrD n0 w (nI d) M = some M' ∧ (∀ e, d ≤ e → e < nd → gA M' 13 e = nI (bv (2 + 3 * nc + e))) ∧ gR M' = gR M ∧ gL M' = gL M ∧ gB M' = gB M ∧ gI M' = gI M ∧ ∀ a i, ¬ (a = 13 ∧ d ≤ i) → gA M' a i = gA M a i
  | 0, d, M, hd, hw, _, _, _, _ => by omega
  | w + 1, d, M, hd, hw, q5, q12, hL, hb => by
    show ∃ M', bX6_readImage_78 n0 (xrD n0 w) (nI d) M = _ ∧ _
    unfold bX6_readImage_78
    by_cases g : d = nd
    · exact ⟨M, eq_t (by rw [q12, g]; exact Int32.le_refl _) rfl, fun e h1 h2 => by omega, rfl, rfl, rfl, rfl, fun _ _ _ => rfl⟩
    · have cd : (nI d).toNatClampNeg = d := nI_clamp (by omega)
      have ix : (2 : Int32) + 3 * gI M (128 * gR M 1280 + 5) + nI d = nI (2 + 3 * nc + d) := by rw [q5, n3, show (2 : Int32) = nI 2 from rfl, nI_add, nI_add]
      obtain ⟨M', r1, r2, r3, r4, r5, r6, r7⟩ := xrd78 (n0 := n0) h5 h6 h16 hs w (d + 1) (sA M 13 d (nI (bv (2 + 3 * nc + d)))) (by omega) (by omega) q5 q12 hL (by rw [gA_sA_ne (by decide)]; exact hb)
      refine ⟨M', eq_f (by rw [q12]; exact nI_ge (by omega) (by omega)) (eq_b (z := (nI (bv (2 + 3 * nc + d)), M)) (by rw [ix]; exact xatb hL h16 hb (by omega)) (eq_f (nI_in (by omega) (by decide)) (eq_e (v' := sA M 13 d (nI (bv (2 + 3 * nc + d)))) (by rw [cd]) ?_))), fun e h1 h2 => ?_, r3, r4, r5, r6, fun a i z => ?_⟩
      · rw [show nI d + 1 = nI (d + 1) from nI_add d 1]
        exact r1
      · by_cases h : e = d
        · rw [h, r7 13 d (by omega), gA_sA, if_pos rfl, if_pos rfl]
        · exact r2 e (by omega) h2
      · rw [r7 a i (by omega), gA_sA]
        by_cases h : a = 13
        · rw [if_pos h, if_neg (by omega), h]
        · rw [if_neg h]
theorem xrd16 {n0 nc nd L : Nat} {bv : Nat → Nat} (hn : 1700 ≤ n0) (h5 : nc ≤ 5) (h6 : nd ≤ 6) (h16 : L ≤ 1600) (hs : L = 2 + 3 * nc + nd + 1) : ∀ w c M, c ≤ nc → nc < w + c → gI M (128 * gR M 1280 + 5) = nI nc → gI M (128 * gR M 1280 + 12) = nI nd → gI M 641 = nI L → Bv (gA M 6) bv L → ∃ M', xrC n0 w (nI c) M = some M' ∧ (∀ j, c ≤ j → j < nc → gA M' 11 j = (pIm bv j).1 ∧ gA M' 12 j = nI (pIm bv j).2) ∧ (∀ e, e < nd → gA M' 13 e = nI (bv (2 + 3 * nc + e))) ∧ gR M' = gR M ∧ gL M' = gL M ∧ gB M' = gB M ∧ gI M' = gI M ∧ ∀ a i, ¬ (a = 13 ∨ ((a = 11 ∨ a = 12) ∧ c ≤ i)) → gA M' a i = gA M a i
  | 0, c, M, hc, hw, _, _, _, _ => by omega
  | w + 1, c, M, hc, hw, q5, q12, hL, hb => by
    show ∃ M', bX6_readImage_16 n0 (xrC n0 w) (nI c) M = _ ∧ _
    unfold bX6_readImage_16
    by_cases g : c = nc
    · obtain ⟨M', r1, r2, r3, r4, r5, r6, r7⟩ := xrd78 (n0 := n0) h5 h6 h16 hs n0 0 M (by omega) (by omega) q5 q12 hL hb
      exact ⟨M', eq_t (by rw [q5, g]; exact Int32.le_refl _) r1, fun j h1 h2 => by omega, fun e he => r2 e (by omega) he, r3, r4, r5, r6, fun a i z => r7 a i (by omega)⟩
    · have cc : (nI c).toNatClampNeg = c := nI_clamp (by omega)
      have oc : ¬ oob (nI c) 5 := nI_in (by omega) (by decide)
      have ix : (2 : Int32) + 3 * nI c = nI (2 + 3 * c) := by rw [n3, show (2 : Int32) = nI 2 from rfl, nI_add]
      have ix3 : (3 : Int32) + 3 * nI c = nI (3 + 3 * c) := by rw [n3, show (3 : Int32) = nI 3 from rfl, nI_add]
      have b0 := (hb (2 + 3 * c) (by omega)).2
      obtain ⟨M', r1, r2, r3, r4, r5, r6, r7, r8⟩ := xrd16 hn h5 h6 h16 hs w (c + 1) (sA (sA M 11 c (pIm bv c).1) 12 c (nI (pIm bv c).2)) (by omega) (by omega) q5 q12 hL (by rw [gA_sA_ne (by decide), gA_sA_ne (by decide)]; exact hb)
      have x54 : ∀ u, u = (pIm bv c).1 → fX6_readImage_54 n0 (xrC n0 w) (nI c) (nI c) u M = some M' := fun u e => by
        unfold fX6_readImage_54
        rw [ix3, e]
        refine eq_f oc (eq_e (v' := sA M 11 c (pIm bv c).1) (by rw [cc]) (eq_b (z := (nI (pIm bv c).2, sA M 11 c (pIm bv c).1)) ?_ (eq_f oc (eq_e (v' := sA (sA M 11 c (pIm bv c).1) 12 c (nI (pIm bv c).2)) (by rw [cc]) ?_))))
        · have := xpair (n0 := n0) (M := sA M 11 c (pIm bv c).1) (L := L) (bv := bv) hL h16 (by rw [gA_sA_ne (by decide)]; exact hb) (i := 3 + 3 * c) (by omega)
          rw [show 3 + 3 * c + 1 = 4 + 3 * c by omega] at this
          exact this
        · rw [show nI c + 1 = nI (c + 1) from nI_add c 1]
          exact r1
      refine ⟨M', eq_f (by rw [q5]; exact nI_ge (by omega) (by omega)) (eq_b (z := (nI (bv (2 + 3 * c)), M)) (by rw [ix]; exact xatb hL h16 hb (by omega)) ?_), fun j h1 h2 => ?_, r3, r4, r5, r6, r7, fun a i z => ?_⟩
      · by_cases z : bv (2 + 3 * c) = 255
        · exact eq_t (by rw [z]; rfl) (x54 _ (by unfold pIm; rw [if_pos z]))
        · exact eq_f (fun y => z ((nI_eq (b := 255) (by omega) (by decide)).mp y)) (x54 _ (by unfold pIm; rw [if_neg z]))
      · by_cases h : j = c
        · rw [h, r8 11 c (by omega), r8 12 c (by omega), gA_sA_ne (by decide), gA_sA, if_pos rfl, if_pos rfl, gA_sA, if_pos rfl, if_pos rfl]
          exact ⟨rfl, rfl⟩
        · exact r2 j (by omega) h2
      · rw [r8 a i (by omega), gA_sA]
        by_cases h : a = 12
        · rw [if_pos h, if_neg (by omega), gA_sA_ne (by decide), h]
        · rw [if_neg h, gA_sA]
          by_cases h' : a = 11
          · rw [if_pos h', if_neg (by omega), h']
          · rw [if_neg h']
end
section
/-! ON: the reference, and the call -/
theorem ycor {n0 b c L : Nat} {T : TP} {bv : Nat → Nat} {N : Mem} (hY : YT n0 b T N) (h16 : L ≤ 1600) (hb : Bv (gA N 1) bv L) (hs : L = 2 + 3 * T.nc + T.nd + 1) (hc : c < T.nc) : ((fX12_cornerOn n0 (nI c) (nI (2 + 3 * c)) N = some (1, sA (sA N 29 (5 + c) (pIm bv c).1) 30 (5 + c) (nI (pIm bv c).2)) ∧ okC bv T.nt c) ∨ (fX12_cornerOn n0 (nI c) (nI (2 + 3 * c)) N = some (0, sA (sA N 29 (5 + c) (pIm bv c).1) 30 (5 + c) (nI (pIm bv c).2)) ∧ ¬ okC bv T.nt c)) := by
  obtain ⟨o1, o2, o3, _⟩ := hY.2.1
  have c5 : (5 : Int32) + nI c = nI (5 + c) := by rw [show (5 : Int32) = nI 5 from rfl, nI_add]
  have cc : (nI (5 + c)).toNatClampNeg = 5 + c := nI_clamp (by omega)
  have oc : ¬ oob (nI (5 + c)) 110 := nI_in (by omega) (by decide)
  have ci : (nI (2 + 3 * c)).toNatClampNeg = 2 + 3 * c := nI_clamp (by omega)
  have i1 : nI (2 + 3 * c) + 1 = nI (3 + 3 * c) := by rw [show nI (2 + 3 * c) + 1 = nI (2 + 3 * c + 1) from nI_add _ 1]; congr 1; omega
  have i2 : nI (2 + 3 * c) + 2 = nI (4 + 3 * c) := by rw [show nI (2 + 3 * c) + 2 = nI (2 + 3 * c + 2) from nI_add _ 2]; congr 1; omega
  have ci1 : (nI (3 + 3 * c)).toNatClampNeg = 3 + 3 * c := nI_clamp (by omega)
  have ci2 : (nI (4 + 3 * c)).toNatClampNeg = 4 + 3 * c := nI_clamp (by omega)
  obtain ⟨e0, b0⟩ := hb (2 + 3 * c) (by omega)
  obtain ⟨e1, b1⟩ := hb (3 + 3 * c) (by omega)
  obtain ⟨e2, b2⟩ := hb (4 + 3 * c) (by omega)
  have hh : (pIm bv c).2 = 256 * bv (3 + 3 * c) + bv (4 + 3 * c) := rfl
  have hN2 : ∃ N2, N2 = sA (sA N 29 (5 + c) (pIm bv c).1) 30 (5 + c) (nI (pIm bv c).2) := ⟨_, rfl⟩
  obtain ⟨N2, eN⟩ := hN2
  rw [← eN]
  have a30 : gA N2 30 (5 + c) = nI (pIm bv c).2 := by rw [eN, gA_sA, if_pos rfl, if_pos rfl]
  have i13 : gI N2 13 = nI b := by rw [eN]; exact hY.2.2.2.1
  have a2 : gA N2 2 b = nI T.nt := by rw [eN, gA_sA_ne (by decide), gA_sA_ne (by decide)]; exact hY.2.2.2.2.1
  have x73 : ((pIm bv c).2 ≤ 999 ∧ fX12_cornerOn_73 n0 (nI c) N2 = some (1, N2)) ∨ (¬ (pIm bv c).2 ≤ 999 ∧ fX12_cornerOn_73 n0 (nI c) N2 = some (0, N2)) := by
    unfold fX12_cornerOn_73
    simp only [c5, cc, a30]
    by_cases z : (pIm bv c).2 ≤ 999
    · exact Or.inl ⟨z, eq_f oc (eq_f (fun y => by have := (nI_ltI (a := 999) (by decide) (by omega)).mp y; omega) rfl)⟩
    · exact Or.inr ⟨z, eq_f oc (eq_t (nI_lt (a := 999) (by omega) (by omega)) rfl)⟩
  have x22 : ∀ r, (if (pIm bv c).1 = (-1 : Int32) then fX12_cornerOn_73 n0 (nI c) N2 else (fX12_isThing n0 (pIm bv c).1 N2).bind fun z67 => if z67.1 = 0 then some ((0 : Int32), z67.2) else fX12_cornerOn_73 n0 (nI c) z67.2) = r → fX12_cornerOn_22 n0 (nI c) (nI (2 + 3 * c)) (pIm bv c).1 N = r := fun r hr => by
    unfold fX12_cornerOn_22
    simp only [c5, cc, i1, i2, ci1, ci2]
    refine eq_f oc (eq_n (eq_f (nI_in (by omega) (by decide)) (eq_f (nI_in (by omega) (by decide)) (eq_f oc (eq_e (v' := N2) ?_ hr)))))
    rw [gA_sA_ne (by decide), e1, e2, pair8 b1 b2, eN, hh]
  have x0 : ∀ r, fX12_cornerOn_22 n0 (nI c) (nI (2 + 3 * c)) (pIm bv c).1 N = r → fX12_cornerOn n0 (nI c) (nI (2 + 3 * c)) N = r := fun r hr => by
    unfold fX12_cornerOn
    simp only [ci, e0]
    by_cases z : bv (2 + 3 * c) = 255
    · have : (pIm bv c).1 = -1 := by unfold pIm; exact if_pos z
      rw [this] at hr
      exact eq_f (nI_in (by omega) (by decide)) (eq_t (by rw [z]; rfl) hr)
    · have : (pIm bv c).1 = nI (bv (2 + 3 * c)) := by unfold pIm; exact if_neg z
      rw [this] at hr
      exact eq_f (nI_in (by omega) (by decide)) (eq_f (fun y => z ((nI_eq (b := 255) (by omega) (by decide)).mp y)) (eq_f (nI_in (by omega) (by decide)) hr))
  by_cases z : bv (2 + 3 * c) = 255
  · have p1 : (pIm bv c).1 = -1 := by unfold pIm; exact if_pos z
    rcases x73 with ⟨y, e⟩ | ⟨y, e⟩
    · exact Or.inl ⟨x0 _ (x22 _ (eq_t p1 e)), Or.inl z, y⟩
    · exact Or.inr ⟨x0 _ (x22 _ (eq_t p1 e)), fun w => y w.2⟩
  · have p1 : (pIm bv c).1 = nI (bv (2 + 3 * c)) := by unfold pIm; exact if_neg z
    have p2 : ¬ (pIm bv c).1 = -1 := by rw [p1]; exact nI_m1 (by omega)
    by_cases y : bv (2 + 3 * c) < T.nt
    · have e3 : fX12_isThing n0 (pIm bv c).1 N2 = some (1, N2) := by rw [p1]; exact yTht i13 hY.2.2.1 a2 o1 y
      rcases x73 with ⟨w, e⟩ | ⟨w, e⟩
      · exact Or.inl ⟨x0 _ (x22 _ (eq_f p2 (eq_b e3 (eq_f (show ¬ (1 : Int32) = 0 by decide) e)))), Or.inr y, w⟩
      · exact Or.inr ⟨x0 _ (x22 _ (eq_f p2 (eq_b e3 (eq_f (show ¬ (1 : Int32) = 0 by decide) e)))), fun k => w k.2⟩
    · have e3 : fX12_isThing n0 (pIm bv c).1 N2 = some (0, N2) := by rw [p1]; exact yThf i13 hY.2.2.1 a2 (Or.inr (nI_le (by omega) (by omega)))
      exact Or.inr ⟨x0 _ (x22 _ (eq_f p2 (eq_b e3 (eq_t rfl rfl)))), fun k => k.1.elim z y⟩
abbrev yoC (n0 : Nat) : Nat → Int32 → Int32 → Mem → Option (Int32 × Mem) := loopN (bX12_comesOn_151 n0) (fun _ _ _ => none)
theorem yon151 {n0 b L : Nat} {T : TP} {bv : Nat → Nat} {x2 : Int32} (h16 : L ≤ 1600) (hs : L = 2 + 3 * T.nc + T.nd + 1) : ∀ w c N, c ≤ T.nc → T.nc < w + c → YT n0 b T N → Bv (gA N 1) bv L → ∃ N', YF (tP 1) N N' ∧ gA N' 28 = gA N 28 ∧ (∀ j, j < c → gA N' 29 (5 + j) = gA N 29 (5 + j) ∧ gA N' 30 (5 + j) = gA N 30 (5 + j)) ∧ ((yoC n0 w x2 (nI c) N = fX12_comesOn_191 n0 x2 0 N' ∧ (∀ j, c ≤ j → j < T.nc → okC bv T.nt j ∧ gA N' 29 (5 + j) = (pIm bv j).1 ∧ gA N' 30 (5 + j) = nI (pIm bv j).2)) ∨ (yoC n0 w x2 (nI c) N = some (0, N') ∧ ¬ ∀ j, c ≤ j → j < T.nc → okC bv T.nt j))
  | 0, c, N, hc, hw, _, _ => by omega
  | w + 1, c, N, hc, hw, hY, hb => by
    show ∃ N', YF (tP 1) N N' ∧ gA N' 28 = gA N 28 ∧ _ ∧ ((bX12_comesOn_151 n0 (yoC n0 w) x2 (nI c) N = _ ∧ _) ∨ (bX12_comesOn_151 n0 (yoC n0 w) x2 (nI c) N = _ ∧ _))
    obtain ⟨o1, o2, o3, _⟩ := hY.2.1
    have hbb := hY.2.2.1
    have o13 : ¬ oob (gI N 13) 2 := by rw [hY.2.2.2.1]; exact nI_in (by omega) (by decide)
    have y5 : gA N 5 (gI N 13).toNatClampNeg = nI T.nc := by rw [hY.2.2.2.1, nI_clamp (by omega)]; exact hY.2.2.2.2.2.1
    unfold bX12_comesOn_151
    by_cases g : c = T.nc
    · exact ⟨N, YF.r, rfl, fun _ _ => ⟨rfl, rfl⟩, Or.inl ⟨eq_f o13 (eq_t (by rw [y5, g]; exact Int32.le_refl _) rfl), fun j h1 h2 => by omega⟩⟩
    · have hcn : c < T.nc := by omega
      have ix : (2 : Int32) + 3 * nI c = nI (2 + 3 * c) := by rw [n3, show (2 : Int32) = nI 2 from rfl, nI_add]
      have st : ¬ gA N 5 (gI N 13).toNatClampNeg ≤ nI c := by rw [y5]; exact nI_ge hcn (by omega)
      have hN2 : ∃ N2, N2 = sA (sA N 29 (5 + c) (pIm bv c).1) 30 (5 + c) (nI (pIm bv c).2) := ⟨_, rfl⟩
      obtain ⟨N2, eN⟩ := hN2
      have f1 : YF (tP 1) N N2 := by rw [eN]; exact (YF.r.a (by unfold tP; omega)).a (by unfold tP; omega)
      have a28 : gA N2 28 = gA N 28 := by rw [eN, gA_sA_ne (by decide), gA_sA_ne (by decide)]
      have a29 : ∀ j, ¬ j = c → gA N2 29 (5 + j) = gA N 29 (5 + j) ∧ gA N2 30 (5 + j) = gA N 30 (5 + j) := fun j z => by
        rw [eN]
        exact ⟨by rw [gA_sA_ne (by decide), gA_sA, if_pos rfl, if_neg (by omega)], by rw [gA_sA, if_pos rfl, if_neg (by omega), gA_sA_ne (by decide)]⟩
      have b29 : gA N2 29 (5 + c) = (pIm bv c).1 ∧ gA N2 30 (5 + c) = nI (pIm bv c).2 := by
        rw [eN]
        exact ⟨by rw [gA_sA_ne (by decide), gA_sA, if_pos rfl, if_pos rfl], by rw [gA_sA, if_pos rfl, if_pos rfl]⟩
      rw [ix]
      have hcr := ycor (n0 := n0) hY h16 hb hs hcn
      rw [← eN] at hcr
      rcases hcr with ⟨e, k⟩ | ⟨e, k⟩
      · obtain ⟨N', r0, r1, r2, r3⟩ := yon151 (n0 := n0) (b := b) (x2 := x2) h16 hs w (c + 1) N2 (by omega) (by omega) (hY.yf f1 tP28) (by rw [eN, gA_sA_ne (by decide), gA_sA_ne (by decide)]; exact hb)
        refine ⟨N', f1.tr r0, r1.trans a28, fun j hj => ⟨((r2 j (by omega)).1).trans (a29 j (by omega)).1, ((r2 j (by omega)).2).trans (a29 j (by omega)).2⟩, ?_⟩
        have k1 : nI c + 1 = nI (c + 1) := nI_add c 1
        rcases r3 with ⟨s1, s2⟩ | ⟨s1, s2⟩
        · refine Or.inl ⟨eq_f o13 (eq_f st (eq_b e (eq_f (show ¬ (1 : Int32) = 0 by decide) (by rw [k1]; exact s1)))), fun j h1 h2 => ?_⟩
          by_cases z : j = c
          · rw [z]
            exact ⟨k, ((r2 c (by omega)).1).trans b29.1, ((r2 c (by omega)).2).trans b29.2⟩
          · exact s2 j (by omega) h2
        · exact Or.inr ⟨eq_f o13 (eq_f st (eq_b e (eq_f (show ¬ (1 : Int32) = 0 by decide) (by rw [k1]; exact s1)))), fun z => s2 (fun j h1 h2 => z j (by omega) h2)⟩
      · exact ⟨N2, f1, a28, fun j hj => a29 j (by omega), Or.inr ⟨eq_f o13 (eq_f st (eq_b e (eq_t rfl rfl))), fun z => k (z c (by omega) hcn)⟩⟩
abbrev yoD (n0 : Nat) : Nat → Int32 → Int32 → Mem → Option (Int32 × Mem) := loopN (bX12_comesOn_191 n0) (fun _ _ _ => none)
theorem yon191 {n0 b L : Nat} {T : TP} {bv : Nat → Nat} (h16 : L ≤ 1600) (hs : L = 2 + 3 * T.nc + T.nd + 1) : ∀ w d N, d ≤ T.nd → T.nd < w + d → YT n0 b T N → Bv (gA N 1) bv L → (∀ j, j < d → bv (2 + 3 * T.nc + j) ≤ 1) → gA N 31 1 = nI (Dn (fun j => bv (2 + 3 * T.nc + j)) d) → ∃ N', YF (fun a i => a = 31 ∧ i = 1) N N' ∧ ((yoD n0 w (nI (2 + 3 * T.nc)) (nI d) N = some (1, N') ∧ (∀ j, j < T.nd → bv (2 + 3 * T.nc + j) ≤ 1) ∧ gA N' 31 1 = nI (Dn (fun j => bv (2 + 3 * T.nc + j)) T.nd)) ∨ (yoD n0 w (nI (2 + 3 * T.nc)) (nI d) N = some (0, N') ∧ ¬ ∀ j, j < T.nd → bv (2 + 3 * T.nc + j) ≤ 1))
  | 0, d, N, hd, hw, _, _, _, _ => by omega
  | w + 1, d, N, hd, hw, hY, hb, hv, hD => by
    show ∃ N', YF (fun a i => a = 31 ∧ i = 1) N N' ∧ ((bX12_comesOn_191 n0 (yoD n0 w) (nI (2 + 3 * T.nc)) (nI d) N = _ ∧ _) ∨ (bX12_comesOn_191 n0 (yoD n0 w) (nI (2 + 3 * T.nc)) (nI d) N = _ ∧ _))
    obtain ⟨o1, o2, o3, _⟩ := hY.2.1
    have hbb := hY.2.2.1
    have o13 : ¬ oob (gI N 13) 2 := by rw [hY.2.2.2.1]; exact nI_in (by omega) (by decide)
    have y10 : gA N 10 (gI N 13).toNatClampNeg = nI T.nd := by rw [hY.2.2.2.1, nI_clamp (by omega)]; exact hY.2.2.2.2.2.2.1
    unfold bX12_comesOn_191
    by_cases g : d = T.nd
    · subst g
      exact ⟨N, YF.r, Or.inl ⟨eq_f o13 (eq_t (by rw [y10]; exact Int32.le_refl _) rfl), hv, hD⟩⟩
    · have hdn : d < T.nd := by omega
      have ci : (nI (2 + 3 * T.nc + d)).toNatClampNeg = 2 + 3 * T.nc + d := nI_clamp (by omega)
      obtain ⟨e0, b0⟩ := hb (2 + 3 * T.nc + d) (by omega)
      have st : ¬ gA N 10 (gI N 13).toNatClampNeg ≤ nI d := by rw [y10]; exact nI_ge hdn (by omega)
      have oi : ¬ oob (nI (2 + 3 * T.nc + d)) 1800 := nI_in (by omega) (by decide)
      rw [nI_add]
      by_cases z : bv (2 + 3 * T.nc + d) ≤ 1
      · have hN2 : ∃ N2, N2 = sA N 31 1 (nI (Dn (fun j => bv (2 + 3 * T.nc + j)) (d + 1))) := ⟨_, rfl⟩
        obtain ⟨N2, eN⟩ := hN2
        have f1 : YF (fun a i => a = 31 ∧ i = 1) N N2 := by rw [eN]; exact YF.r.a ⟨rfl, rfl⟩
        have dk := (Dn_ok (f := fun j => bv (2 + 3 * T.nc + j)) (n := d) (by omega) hv d (Nat.le_refl _)).1
        have p := p64 (n := d) (by omega)
        obtain ⟨N', r0, r1⟩ := yon191 (n0 := n0) (b := b) h16 hs w (d + 1) N2 (by omega) (by omega) (hY.yf f1 (fun a i y => by omega)) (by rw [eN, gA_sA_ne (by decide)]; exact hb) (fun j hj => by
          by_cases y : j = d
          · rw [y]; exact z
          · exact hv j (by omega)) (by rw [eN, gA_sA, if_pos rfl, if_pos rfl])
        have k1 : nI d + 1 = nI (d + 1) := nI_add d 1
        have gg : ∀ r, yoD n0 w (nI (2 + 3 * T.nc)) (nI (d + 1)) N2 = r → (if oob (gI N 13) 2 then none else if (gA N 10 (Int32.toNatClampNeg (gI N 13))) ≤ nI d then some ((1 : Int32), N) else if oob (nI (2 + 3 * T.nc + d)) 1800 then none else if (gA N 1 (Int32.toNatClampNeg (nI (2 + 3 * T.nc + d)))) ≤ (1 : Int32) then if oob (1 : Int32) 22 then none else if oob (nI (2 + 3 * T.nc + d)) 1800 then none else if oob (1 : Int32) 22 then none else bnd (sA N 31 (Int32.toNatClampNeg (1 : Int32)) ((gA N 31 (Int32.toNatClampNeg (1 : Int32))) ||| ((gA N 1 (Int32.toNatClampNeg (nI (2 + 3 * T.nc + d)))) <<< (nI d &&& 31)))) fun M240 => yoD n0 w (nI (2 + 3 * T.nc)) (nI d + (1 : Int32)) M240 else some ((0 : Int32), N)) = r := fun r hr => by
          refine eq_f o13 (eq_f st (eq_f oi (eq_t (by rw [ci, e0]; exact nI_le (b := 1) z (by decide)) (eq_f (by decide) (eq_f oi (eq_f (by decide) (eq_e (v' := N2) ?_ ?_)))))))
          · show sA N 31 1 (gA N 31 1 ||| _) = _
            rw [ci, e0, hD, bt_on1 d (by omega) _ (by omega) dk _ (by omega), eN]
            rfl
          · rw [k1]; exact hr
        refine ⟨N', f1.tr r0, ?_⟩
        rcases r1 with ⟨s1, s2⟩ | ⟨s1, s2⟩
        · exact Or.inl ⟨gg _ s1, s2⟩
        · exact Or.inr ⟨gg _ s1, s2⟩
      · exact ⟨N, YF.r, Or.inr ⟨eq_f o13 (eq_f st (eq_f oi (eq_f (by rw [ci, e0]; exact nI_ge (a := 1) (by omega) (by omega)) rfl))), fun y => z (y d hdn)⟩⟩
abbrev yoS (n0 : Nat) : Nat → Int32 → Int32 → Int32 → Int32 → Mem → Option (Int32 × Mem) := loopN (bX12_comesOn_62 n0) (fun _ _ _ _ _ => none)
theorem yon62 {n0 L : Nat} {bv : Nat → Nat} {x2 : Int32} {N : Mem} (h16 : L ≤ 1600) (hL : 1 ≤ L) (hb : Bv (gA N 1) bv L) : ∀ w k, k ≤ L - 1 → L - 1 < w + k → yoS n0 w (nI L) x2 (nI (ckN bv k)) (nI k) N = yoS n0 1 (nI L) x2 (nI (ckN bv (L - 1))) (nI (L - 1)) N
  | 0, k, hk, hw => by omega
  | w + 1, k, hk, hw => by
    have l1 : nI L - 1 = nI (L - 1) := by
      rw [show L = (L - 1) + 1 by omega]
      exact nIs _
    by_cases g : k = L - 1
    · rw [g]
      show bX12_comesOn_62 n0 (yoS n0 w) (nI L) x2 (nI (ckN bv (L - 1))) (nI (L - 1)) N = bX12_comesOn_62 n0 (yoS n0 0) (nI L) x2 (nI (ckN bv (L - 1))) (nI (L - 1)) N
      unfold bX12_comesOn_62
      rw [l1, if_pos (Int32.le_refl _), if_pos (Int32.le_refl _)]
    · show bX12_comesOn_62 n0 (yoS n0 w) (nI L) x2 (nI (ckN bv k)) (nI k) N = _
      have ck : (nI k).toNatClampNeg = k := nI_clamp (by omega)
      obtain ⟨e0, b0⟩ := hb k (by omega)
      have ih := yon62 (n0 := n0) (x2 := x2) h16 hL hb w (k + 1) (by omega) (by omega)
      rw [← ih]
      unfold bX12_comesOn_62
      refine eq_f (by rw [l1]; exact nI_ge (by omega) (by omega)) (eq_f (nI_in (by omega) (by decide)) (eq_f (by decide) (eq_e (v' := nI (ckN bv (k + 1))) (by rw [ck, e0, ck1 (by omega)]) ?_)))
      rw [show nI k + 1 = nI (k + 1) from nI_add k 1]
theorem ycomes {n0 b m L : Nat} {T : TP} {pm : Nat → Int32 × Nat} {s : Nat × List (Nat × Nat)} {bv : Nat → Nat} {N : Mem} (hn : 1700 ≤ n0) (hY : YT n0 b T N) (hLy : LyD 0 T.nc m pm s N) (hs : sOk T.nd s) (h16 : L ≤ 1600) (hb : Bv (gA N 1) bv L) :
    (∃ N', fX12_comesOn n0 (nI L) N = some (1, N') ∧ isIm T bv L ∧ LyD 1 T.nc (256 * bv 0 + bv 1) (pIm bv) (Dn (fun j => bv (2 + 3 * T.nc + j)) T.nd, []) N' ∧ YF (lP 1) N N') ∨
    (∃ N', fX12_comesOn n0 (nI L) N = some (0, N') ∧ ¬ isIm T bv L ∧ YF (lP 1) N N') := by
  obtain ⟨o1, o2, o3, _⟩ := hY.2.1
  have hbb := hY.2.2.1
  have hl := hs.l
  have o13 : ¬ oob (gI N 13) 2 := by rw [hY.2.2.2.1]; exact nI_in (by omega) (by decide)
  have y5 : gA N 5 (gI N 13).toNatClampNeg = nI T.nc := by rw [hY.2.2.2.1, nI_clamp (by omega)]; exact hY.2.2.2.2.2.1
  have y10 : gA N 10 (gI N 13).toNatClampNeg = nI T.nd := by rw [hY.2.2.2.1, nI_clamp (by omega)]; exact hY.2.2.2.2.2.2.1
  have ix : (2 : Int32) + 3 * gA N 5 (gI N 13).toNatClampNeg = nI (2 + 3 * T.nc) := by rw [y5, n3, show (2 : Int32) = nI 2 from rfl, nI_add]
  have ez : nI (2 + 3 * T.nc) + gA N 10 (gI N 13).toNatClampNeg + 1 = nI (2 + 3 * T.nc + T.nd + 1) := by rw [y10, nI_add]; exact nI_add _ 1
  by_cases g1 : L = 2 + 3 * T.nc + T.nd + 1
  · obtain ⟨e0, b0⟩ := hb 0 (by omega)
    obtain ⟨e1, b1⟩ := hb 1 (by omega)
    have hp : (gA N 1 (Int32.toNatClampNeg 0) <<< ((8 : Int32) &&& 31)) ||| gA N 1 (Int32.toNatClampNeg 1) = nI (256 * bv 0 + bv 1) := by
      show (gA N 1 0 <<< _) ||| gA N 1 1 = _
      rw [e0, e1, pair8 b0 b1]
    have l1 : nI L - 1 = nI (L - 1) := by
      rw [show L = (L - 1) + 1 by omega]
      exact nIs _
    by_cases g2 : 256 * bv 0 + bv 1 ≤ 9999
    · have st : ∀ r, yoS n0 1 (nI L) (nI (2 + 3 * T.nc)) (nI (ckN bv (L - 1))) (nI (L - 1)) N = r → fX12_comesOn n0 (nI L) N = r := fun r hr => by
        unfold fX12_comesOn
        refine eq_f o13 (eq_e ix (eq_f o13 (eq_t (by rw [ez, g1]) (eq_f (by decide) (eq_f (by decide) (eq_t (by rw [hp]; exact nI_le (b := 9999) g2 (by decide)) ?_))))))
        exact (yon62 (n0 := n0) (x2 := nI (2 + 3 * T.nc)) h16 (by omega) hb n0 0 (by omega) (by omega)).trans hr
      obtain ⟨e3, b3⟩ := hb (L - 1) (by omega)
      have c3 := ckN_lt bv (L - 1)
      have cl : (nI (L - 1)).toNatClampNeg = L - 1 := nI_clamp (by omega)
      have ol : ¬ oob (nI L - 1) 1800 := by rw [l1]; exact nI_in (by omega) (by decide)
      by_cases g3 : bv (L - 1) = ckN bv (L - 1)
      · obtain ⟨N1, k1, k2, k3, k4, k5, k6, k7⟩ := ycopy (n0 := n0) (v := 1) (u := 0) (kn := s.2.length) (M := N) hn (by decide) (by decide) (by decide) (by omega) hLy.2.2.1
        have hN2 : ∃ N2, N2 = sA (sA (sA N1 28 1 (nI (256 * bv 0 + bv 1))) 31 1 0) 32 1 0 := ⟨_, rfl⟩
        obtain ⟨N2, eN⟩ := hN2
        have f2 : YF (lP 1) N N2 := by
          rw [eN]
          exact ((k7.a (by unfold lP tP; omega)).a (by unfold lP dP; omega)).a (by unfold lP dP; omega)
        have t1 : gA N1 1 = gA N 1 := k7.gA (fun i y => by unfold lP tP dP at y; omega) (by decide)
        have t2 : gA N2 1 = gA N 1 := f2.gA (fun i y => by unfold lP tP dP at y; omega) (by decide)
        have hb2 : Bv (gA N2 1) bv L := by rw [t2]; exact hb
        have s62 : yoS n0 1 (nI L) (nI (2 + 3 * T.nc)) (nI (ckN bv (L - 1))) (nI (L - 1)) N = fX12_comesOn_151 n0 (nI (2 + 3 * T.nc)) 0 N2 := by
          show bX12_comesOn_62 n0 (yoS n0 0) (nI L) (nI (2 + 3 * T.nc)) (nI (ckN bv (L - 1))) (nI (L - 1)) N = _
          unfold bX12_comesOn_62
          refine eq_t (by rw [l1]; exact Int32.le_refl _) (eq_f ol (eq_t (by rw [l1, cl, e3, g3]) (eq_b k1 (eq_f (by decide) (eq_f (by decide) (eq_f (by decide) (eq_e (v' := sA N1 28 1 (nI (256 * bv 0 + bv 1))) ?_ (eq_f (by decide) (eq_n (eq_f (by decide) (eq_e (v' := N2) (by rw [eN]; rfl) rfl)))))))))))
          rw [t1, hp]
          rfl
        obtain ⟨N3, q0, q1, _, q3⟩ := yon151 (n0 := n0) (b := b) (x2 := nI (2 + 3 * T.nc)) h16 g1 n0 0 N2 (by omega) (by omega) (hY.yf f2 lP28) hb2
        have f3 : YF (lP 1) N N3 := f2.tr (q0.wk (fun a i y => Or.inl y))
        rcases q3 with ⟨s1, s2⟩ | ⟨s1, s2⟩
        · have a31 : gA N3 31 1 = nI (Dn (fun j => bv (2 + 3 * T.nc + j)) 0) := by
            rw [q0.2.2.2.1 31 1 (by decide) (fun y => by unfold tP at y; omega), eN, gA_sA_ne (by decide), gA_sA, if_pos rfl, if_pos rfl]
            rfl
          have a32 : gA N3 32 1 = 0 := by
            rw [q0.2.2.2.1 32 1 (by decide) (fun y => by unfold tP at y; omega), eN, gA_sA, if_pos rfl, if_pos rfl]
          have t3 : gA N3 1 = gA N 1 := f3.gA (fun i y => by unfold lP tP dP at y; omega) (by decide)
          obtain ⟨N4, u0, u1⟩ := yon191 (n0 := n0) (b := b) (T := T) (bv := bv) h16 g1 n0 0 N3 (by omega) (by omega) (hY.yf f3 lP28) (by rw [t3]; exact hb) (fun j hj => by omega) a31
          have f4 : YF (lP 1) N N4 := f3.tr (u0.wk (fun a i y => by unfold lP dP; omega))
          rcases u1 with ⟨v1, v2, v3⟩ | ⟨v1, v2⟩
          · refine Or.inl ⟨N4, st _ (s62.trans (s1.trans v1)), ⟨g1, g2, fun j hj => (s2 j (by omega) hj).1, v2, g3⟩, ⟨⟨?_, fun c hc => ?_⟩, v3, ?_, fun i p hp => by simp at hp⟩, f4⟩
            · rw [u0.2.2.2.1 28 1 (by decide) (fun y => by omega), q1, eN, gA_sA_ne (by decide), gA_sA_ne (by decide), gA_sA, if_pos rfl, if_pos rfl]
            · rw [u0.2.2.2.1 29 _ (by decide) (fun y => by omega), u0.2.2.2.1 30 _ (by decide) (fun y => by omega)]
              exact (s2 c (by omega) hc).2
            · rw [u0.2.2.2.1 32 1 (by decide) (fun y => by omega), a32]
              rfl
          · exact Or.inr ⟨N4, st _ (s62.trans (s1.trans v1)), fun y => v2 y.2.2.2.1, f4⟩
        · exact Or.inr ⟨N3, st _ (s62.trans s1), fun y => s2 (fun j _ hj => y.2.2.1 j hj), f3⟩
      · refine Or.inr ⟨N, st _ ?_, fun y => g3 y.2.2.2.2, YF.r⟩
        show bX12_comesOn_62 n0 (yoS n0 0) (nI L) (nI (2 + 3 * T.nc)) (nI (ckN bv (L - 1))) (nI (L - 1)) N = _
        unfold bX12_comesOn_62
        exact eq_t (by rw [l1]; exact Int32.le_refl _) (eq_f ol (eq_f (by rw [l1, cl, e3]; exact fun y => g3 ((nI_eq (by omega) (by omega)).mp y)) rfl))
    · refine Or.inr ⟨N, ?_, fun y => g2 y.2.1, YF.r⟩
      unfold fX12_comesOn
      exact eq_f o13 (eq_e ix (eq_f o13 (eq_t (by rw [ez, g1]) (eq_f (by decide) (eq_f (by decide) (eq_f (by rw [hp]; exact nI_ge (a := 9999) (by omega) (by omega)) rfl))))))
  · refine Or.inr ⟨N, ?_, fun y => g1 y.1, YF.r⟩
    unfold fX12_comesOn
    exact eq_f o13 (eq_e ix (eq_f o13 (eq_f (by rw [ez]; exact fun y => g1 ((nI_eq (by omega) (by omega)).mp y)) rfl)))
theorem cOn {n0 : Nat} {MX MY : Mem} (hn : 1700 ≤ n0) (h : R n0 MX MY) : Cal n0 (fX11_on n0 MX) (fX12_on n0 MY) := by
  have hg := h.gone
  obtain ⟨q, b, T, nr, C, m, pm, s, h⟩ := h
  obtain ⟨h1, h2, h3, h4, h5, h6, h7⟩ := id h
  obtain ⟨o1, o2, o3, _⟩ := h1.2.2.2.1.2.1
  have hl := h2.2.2.l
  obtain ⟨L, l1, l2, l3, l4, l5⟩ := h7.2.2.2.2.1
  have hbx : Bv (gA MX 6) (fun i => (gA MX 6 i).toNatClampNeg) L := byt_bv l5
  have hbv : ∃ bv, bv = fun i => (gA MX 6 i).toNatClampNeg := ⟨_, rfl⟩
  obtain ⟨bv, ebv⟩ := hbv
  rw [← ebv] at hbx
  have hby : Bv (gA (sI MY 1 0) 1) bv L := by
    show Bv (gA MY 1) bv L
    rw [l4]
    exact hbx
  have hY1 : YT n0 b T (sI MY 1 0) := h1.2.2.2.2.1.tw yTw.r (gI_ne (by decide))
  rcases ycomes (n0 := n0) (b := b) (m := m) (pm := pm) (s := s) hn hY1 h4 h2.2.2 l1 hby with ⟨N1, k1, k2, k3, k4⟩ | ⟨N1, k1, k2, k4⟩
  · rcases xisIm (n0 := n0) hn h1.2.2.2.1 h3.2.1 l2 l1 hbx with ⟨x1, _⟩ | ⟨_, x2⟩
    · obtain ⟨i1, i2, i3, i4, i5⟩ := k2
      -- the class
      have hX1 : ∃ X1, X1 = sI (sI MX 1281 (nI (256 * bv 0 + bv 1))) 1285 0 := ⟨_, rfl⟩
      obtain ⟨X1, eX⟩ := hX1
      have xq : gR X1 1280 = q := by rw [eX]; exact h3.2.1
      obtain ⟨X2, a1, a2, a3, a4, a5, a6, a7, a8⟩ := xrd16 (n0 := n0) (nc := T.nc) (nd := T.nd) (bv := bv) hn o2 o3 l1 i1 n0 0 X1 (by omega) (by omega) (by rw [xq, eX, gI_ne (by rcases h1.1 with z | z <;> omega), gI_ne (by rcases h1.1 with z | z <;> omega)]; exact h1.2.2.2.1.2.2.1) (by rw [xq, eX, gI_ne (by rcases h1.1 with z | z <;> omega), gI_ne (by rcases h1.1 with z | z <;> omega)]; exact h1.2.2.2.1.2.2.2.1) (by rw [eX, gI_ne (by decide), gI_ne (by decide)]; exact l2) (by rw [eX]; exact hbx)
      have cx : fX11_on n0 MX = some (1, sI (sI X2 2050 0) 641 0) := by
        unfold fX11_on
        refine eq_b x1 (eq_f (show ¬ (1 : Int32) = 0 by decide) (eq_b (z := X2) ?_ ?_))
        · unfold fX6_readImage
          refine eq_b (z := (nI (256 * bv 0 + bv 1), MX)) (xpair (n0 := n0) l2 l1 hbx (i := 0) (by omega)) (eq_n (eq_e (v' := X1) (by rw [eX]) a1))
        · unfold fX11_on_44
          exact eq_n (eq_t (Or.inr rfl) rfl)
      -- the reference
      obtain ⟨N2, c1, c2, c3⟩ := ycopyD (n0 := n0) (v := 0) (u := 1) (M := N1) hn (by decide) (by decide) (by decide) o2 (Nat.zero_le _) k3
      have cy : fX12_on n0 MY = some (1, sI N2 54 0) := by
        unfold fX12_on
        exact eq_e l3 (eq_n (eq_b k1 (eq_f (show ¬ (1 : Int32) = 0 by decide) (eq_b c1 rfl))))
      have dk := Dn_ok (f := fun j => bv (2 + 3 * T.nc + j)) (n := T.nd) o3 i4 T.nd (Nat.le_refl _)
      have xI : ∀ k, ¬ (k = 641 ∨ k = 2050 ∨ k = 1281 ∨ k = 1285) → gI (sI (sI X2 2050 0) 641 0) k = gI MX k := fun k z => by rw [gI_ne (by omega), gI_ne (by omega), a7, eX, gI_ne (by omega), gI_ne (by omega)]
      have xA : ∀ a, ¬ (a = 11 ∨ a = 12 ∨ a = 13) → gA X2 a = gA MX a := fun a z => by
        funext i
        rw [a8 a i (by omega), eX]
        rfl
      have xR : gR X2 = gR MX := by rw [a4, eX]; rfl
      have yI : ∀ k, ¬ (k = 1 ∨ k = 54) → gI (sI N2 54 0) k = gI MY k := fun k z => by rw [gI_ne (by omega), c3.2.2.1, k4.2.2.1, gI_ne (by omega)]
      have yA : ∀ a i, ¬ a = 35 → ¬ lP 0 a i → ¬ lP 1 a i → gA N2 a i = gA MY a i := fun a i z0 z1 z2 => by rw [c3.2.2.2.1 a i z0 z1, k4.2.2.2.1 a i z0 z2]; rfl
      have yA2 : ∀ a, ¬ (28 ≤ a ∧ a ≤ 33) → ¬ a = 35 → gA N2 a = gA MY a := fun a z1 z2 => by
        funext i
        exact yA a i z2 (fun z => by unfold lP tP dP at z; omega) (fun z => by unfold lP tP dP at z; omega)
      refine ⟨1, _, _, cx, cy, q, b, T, nr, C, 256 * bv 0 + bv 1, pIm bv, (Dn (fun j => bv (2 + 3 * T.nc + j)) T.nd, []), h1.cgs xR (fun k z => xI k (by omega)) (fun a z1 z2 => xA a (by omega)) (yI 13 (by decide)) (fun a z1 z2 => yA2 a (by omega) (by omega)) (fun a z1 z2 => by show gB N2 a = _; rw [c3.2.2.2.2 a (by omega), k4.2.2.2.2 a (by omega)]; rfl), ⟨i2, fun c hc => ?_, dk.1, Nat.zero_le _⟩, ?_, c2, ?_, h6.cg (xI 2688 (by decide)) (yI 61 (by decide)) (fun a z1 z2 => xA a (by omega)) (fun a z1 z2 => yA2 a (by omega) (by omega)), ?_⟩
      · have k := i3 c hc
        refine ⟨?_, k.2⟩
        show tOk T.nt (if bv (2 + 3 * c) = 255 then -1 else nI (bv (2 + 3 * c)))
        by_cases z : bv (2 + 3 * c) = 255
        · rw [if_pos z]; exact Or.inl rfl
        · rw [if_neg z]; exact Or.inr ⟨_, k.1.resolve_left z, rfl⟩
      · refine ⟨by show gR X2 896 = q; rw [xR]; exact h3.1, by show gR X2 1280 = q; rw [xR]; exact h3.2.1, ?_, fun c hc => a2 c (by omega) hc, fun d hd => ?_, ?_, fun i p hp => by simp at hp⟩
        · rw [gI_ne (by decide), gI_ne (by decide), a7, eX, gI_ne (by decide), gI_at]
        · show gA X2 13 d = _
          rw [a3 d hd, dk.2 d hd]
        · rw [gI_ne (by decide), gI_ne (by decide), a7, eX, gI_at]
          rfl
      · obtain ⟨x0, f, u, e, p1, p2, p3, p4, p5, p6, p7, p8, p9⟩ := h5
        refine ⟨(x0 + u) % 20, f, 0, e, by omega, p2, by omega, ?_, ?_, ?_, ?_, fun i hi => by omega, fun i j _ hj => by omega⟩
        · rw [xI 2049 (by decide), p4]; congr 1; omega
        · rw [gI_ne (by decide), gI_at]; rfl
        · rw [yI 53 (by decide)]; exact p6
        · rw [gI_at]; rfl
      · obtain ⟨p1, p2, p3, p4, p5, p6⟩ := h7
        refine ⟨p1.cg (xI 17 (by decide)) (by show gL N2 55 = _; rw [c3.2.1, k4.2.1]; rfl), p2.cg (xI 14 (by decide)) (yI 67 (by decide)) (xA 29 (by omega)) (yA2 43 (by omega) (by omega)), p3.cg (xA 30 (by omega)) (yA2 27 (by omega) (by omega)), p4.cg (xI 15 (by decide)) (xI 16 (by decide)) (yI 10 (by decide)) (yI 11 (by decide)), ⟨0, by omega, gI_at, ?_, ?_, fun i hi => by omega⟩, p6.cg (xA 4 (by omega))⟩
        · rw [gI_ne (by decide), c3.2.2.1, k4.2.2.1, gI_at]; rfl
        · show gA N2 1 = gA X2 6
          rw [yA2 1 (by omega) (by omega), xA 6 (by omega)]
          exact l4
    · exact absurd k2 x2
  · rcases xisIm (n0 := n0) hn h1.2.2.2.1 h3.2.1 l2 l1 hbx with ⟨_, x2⟩ | ⟨x1, _⟩
    · exact absurd x2 k2
    · have hR : R n0 (sI MX 641 0) N1 := by
        obtain ⟨q', b', T', nr', C', m', pm', s', hg⟩ := hg
        exact ⟨q', b', T', nr', C', m', pm', s', hg.scr XF.r (k4.wk (fun a i z => Or.inl z))⟩
      refine Cal.ref (k := 5) (r := 0) hR (by decide) ?_ ?_
      · unfold fX11_on
        refine eq_b x1 (eq_t rfl (eq_b (xref (k := 5) (by decide)) ?_))
        unfold fX11_on_44
        exact eq_n (eq_t (Or.inl rfl) rfl)
      · unfold fX12_on
        exact eq_e l3 (eq_n (eq_b k1 (eq_t rfl (eq_b (yref (k := 5) (by decide)) (eq_t (show (-1 : Int32) < 0 by decide) rfl)))))
end
section
/-! HOURS AHEAD ON BOTH SIDES: later, when, alike -/
theorem xfc {n0 q c m most q1 : Nat} {T : TP} {pm : Nat → Int32 × Nat} {s : Nat × List (Nat × Nat)} {M : Mem} (hn : 1700 ≤ n0) (hT : XT n0 q T M) (hS : SX q T.nc T.nd m pm s M) (hO : PsO T.nt T.nc pm) (hc : c < T.nc) (hm : m ≤ 9999) (h60 : most ≤ 60) (hq1 : q1 = 26 ∨ q1 = 27) : ∃ M', fX11_foresee n0 q1 (nI c) (nI most) M = some (nI (min most (9999 - m)), M') ∧ (∀ j, j ≤ min most (9999 - m) → gA M' q1 j = nI (hrs T.hF T.gF c m (pm c) j)) ∧ XF (fun a => a = q1) M M' := by
  have h5 := hT.2.1.2.1
  have f1 : XF (fun a => a = q1) M (hld M (nI c) (pm c).1 (nI (pm c).2) (nI m)) := hld_f
  obtain ⟨M2, e1, e2, e3⟩ := xfor (n0 := n0) (most := most) hn (hT.1.xf f1 (fun a z => by omega)) (hld_p hS.1) (by omega) (hO c hc) hm h60 hq1
  refine ⟨M2, ?_, e2, f1.tr e3⟩
  unfold fX11_foresee
  exact eq_b (xlook hS h5 hc) (eq_b e1 rfl)
theorem hrs_le {n0 b : Nat} {T : TP} {M : Mem} (hY : YT n0 b T M) {c m k : Nat} {p : Int32 × Nat} (hc : c < T.nc) (hp : pOk T.nt p) (hm : m + k ≤ 20000) : hrs T.hF T.gF c m p k ≤ 23 := by
  have h5 := hY.2.1.2.1
  have ok := tr_ok (gF := T.gF) (c := c) (m := m) hp k
  have hb := hY.2.2.1
  -- a layer that tells just that
  have := (hY.1 (sA (sA (sA M 28 0 (nI (m + k))) 29 (5 * 0 + c) (tr T.gF c m p k).1) 30 (5 * 0 + c) (nI (tr T.gF c m p k).2)) 0 c (tr T.gF c m p k).1 (tr T.gF c m p k).2 (m + k) (yTw.all (fun a _ z => by rw [gA_sA_ne (by omega), gA_sA_ne (by omega), gA_sA_ne (by omega)]) (fun _ _ _ => rfl)) ⟨hY.2.2.2.1, by decide, by rw [gA_sA_ne (by decide), gA_sA_ne (by decide), gA_sA, if_pos rfl, if_pos rfl], by rw [gA_sA_ne (by decide), gA_sA, if_pos rfl, if_pos rfl], by rw [gA_sA, if_pos rfl, if_pos rfl]⟩ ⟨by omega, ok.1, ok.2, hm⟩).1
  exact this
def trP (T : TP) (m : Nat) (pm : Nat → Int32 × Nat) (k : Nat) : Nat → Int32 × Nat := fun c => tr T.gF c m (pm c) k
theorem trP_ok {T : TP} {m : Nat} {pm : Nat → Int32 × Nat} (h : PsO T.nt T.nc pm) (k : Nat) : PsO T.nt T.nc (trP T m pm k) := fun c hc => tr_ok (h c hc) k
theorem trP_n {T : TP} {m : Nat} {pm : Nat → Int32 × Nat} (k : Nat) : nxP T (m + k) (trP T m pm k) = trP T m pm (k + 1) := rfl
theorem yahT {n0 m lo hi k : Nat} {M : Mem} (h28 : gA M 28 0 = nI m) (h1 : lo ≤ k) (h2 : k ≤ hi) (hhi : hi ≤ 100) (h3 : m + k ≤ 9999) : fX12_isAhead n0 (nI k) (nI lo) (nI hi) M = some (1, M) := by
  rcases yah (n0 := n0) (lo := lo) (hi := hi) (nI k) h28 (by omega) hhi (by omega) with ⟨_, _, _, _, _, e⟩ | ⟨z, _⟩
  · exact e
  · rcases z with z | z | ⟨j, j1, j2, j3, j4⟩
    · have := (nI_ltI (by omega) (by omega)).mp z; omega
    · have := (nI_ltI (by omega) (by omega)).mp z; omega
    · have := (nI_eq (by omega) (by omega)).mp j3; omega
theorem yahF {n0 m lo hi k : Nat} {M : Mem} (h28 : gA M 28 0 = nI m) (hm : m ≤ 9999) (hhi : hi ≤ 100) (hlo : lo ≤ hi) (hk : k ≤ 1000) (h3 : ¬ (k ≤ hi ∧ m + k ≤ 9999)) : fX12_isAhead n0 (nI k) (nI lo) (nI hi) M = some (0, M) := by
  rcases yah (n0 := n0) (lo := lo) (hi := hi) (nI k) h28 hm hhi hlo with ⟨j, j1, j2, j3, j4, _⟩ | ⟨_, e⟩
  · have := (nI_eq (by omega) (by omega)).mp j4; omega
  · exact e
theorem m28f {P : Nat → Nat → Prop} {M M' : Mem} {x : Int32} (h : gA M 28 0 = x) (f : YF P M M') (hP : ¬ P 28 0) : gA M' 28 0 = x := (f.2.2.2.1 28 0 (by decide) hP).trans h
theorem n28 : ¬ lP 1 28 0 := fun z => by unfold lP tP dP at z; omega
theorem lsc {M M' : Mem} (f : YF (lP 1) M M') : YF scP M M' := f.wk (fun _ _ z => Or.inl z)
-- later
abbrev ylL (n0 : Nat) : Nat → Int32 → Int32 → Int32 → Mem → Option (Int32 × Mem) := loopN (bX12_later_29 n0) (fun _ _ _ _ => none)
theorem ylat {n0 b c m n : Nat} {T : TP} {pm : Nat → Int32 × Nat} (hn : 1700 ≤ n0) (hc : c < T.nc) (hO : PsO T.nt T.nc pm) (hm : m + n ≤ 9999) : ∀ w k M (s : Nat × List (Nat × Nat)), k ≤ n → n < w + k → YT n0 b T M → LyD 1 T.nc (m + k) (trP T m pm k) s M → sOk T.nd s → ∃ M', ylL n0 w (nI c) (nI n) (nI k) M = some (nI (hrs T.hF T.gF c m (pm c) n), M') ∧ YF (lP 1) M M'
  | 0, k, M, s, hk, hw, _, _, _ => by omega
  | w + 1, k, M, s, hk, hw, hY, hL, hs => by
    show ∃ M', bX12_later_29 n0 (ylL n0 w) (nI c) (nI n) (nI k) M = _ ∧ _
    unfold bX12_later_29
    by_cases g : k = n
    · subst g
      obtain ⟨_, M1, e1, e2⟩ := yhr hY (v := 1) (by decide) hL.1 (trP_ok hO k) (by omega) hc
      exact ⟨M1, eq_t (Int32.le_refl _) (eq_b e1 rfl), e2.y⟩
    · obtain ⟨M1, e1, e2, e3, e4⟩ := ypassD (v := 1) hn hY (by decide) hL (trP_ok hO k) hs (by omega)
      obtain ⟨M', r1, r2⟩ := ylat hn hc hO hm w (k + 1) M1 _ (by omega) (by omega) (hY.yf e4 lP28) e2 e3
      refine ⟨M', eq_f (nI_ge (by omega) (by omega)) (eq_b e1 ?_), e4.tr r2⟩
      rw [show nI k + 1 = nI (k + 1) from nI_add k 1]
      exact r1
theorem cLater {n0 : Nat} {x y : Int32} {MX MY : Mem} (hn : 1700 ≤ n0) (h : R n0 MX MY) : Cal n0 (fX11_later n0 x y MX) (fX12_later n0 x y MY) := by
  have h0 := h
  obtain ⟨q, b, T, nr, C, m, pm, s, h⟩ := h
  obtain ⟨h1, h2, h3, h4, _⟩ := id h
  have hm := h2.1
  have hl := h2.2.2.l
  have y28 : gA MY 28 0 = nI m := h4.1.1
  unfold fX11_later fX12_later
  rcases isCo h1 x with ⟨c, hc, rfl, e1, e2⟩ | ⟨z, e1, e2⟩
  · rcases yah (n0 := n0) (lo := 0) (hi := 60) y y28 hm (by decide) (by decide) with ⟨k, _, k2, k3, rfl, e⟩ | ⟨z, e⟩
    · rcases ahead2 h k (by omega) with ⟨_, e3, _⟩ | ⟨g, _⟩
      · obtain ⟨X1, a1, a2, a3⟩ := xfc (n0 := n0) (q1 := 26) (most := k) hn h1.2.2.2.1 h3 h2.2.1 hc hm (by omega) (Or.inl rfl)
        obtain ⟨Y1, b1, b2, b3⟩ := ycopyD (n0 := n0) (v := 1) (u := 0) hn (by decide) (by decide) (by decide) h1.2.2.2.1.2.1.2.1 (by omega) h4
        obtain ⟨Y2, c1, c2⟩ := ylat (n0 := n0) (b := b) (m := m) hn hc h2.2.1 k3 n0 0 Y1 s (by omega) (by omega) (h1.2.2.2.2.1.yf b3 lP28) b2 h2.2.2
        refine Cal.scr h (eq_b e1 (eq_f (show ¬ (1 : Int32) = 0 by decide) (eq_f (nI_nn (by omega)) (eq_f (fun z => by have := (nI_ltI (a := 60) (by decide) (by omega)).mp z; omega) (eq_b e3 (eq_t rfl (eq_b a1 (eq_f (nI_in (by omega) (by decide)) ?_)))))))) (eq_b e2 (eq_f (show ¬ (1 : Int32) = 0 by decide) (eq_b e (eq_f (show ¬ (1 : Int32) = 0 by decide) (eq_b b1 c1))))) (a3.wk (fun a z => by unfold scA; omega)) (lsc (b3.tr c2))
        rw [nI_clamp (by omega), a2 k (by omega)]
      · exact absurd k3 g
    · refine Cal.same (r := -1) h0 ?_ (eq_b e2 (eq_f (show ¬ (1 : Int32) = 0 by decide) (eq_b e (eq_t rfl rfl))))
      refine eq_b e1 (eq_f (show ¬ (1 : Int32) = 0 by decide) ?_)
      rcases z with z | z | ⟨k, k1, k2, rfl, k3⟩
      · exact eq_t z rfl
      · by_cases g : y < 0
        · exact eq_t g rfl
        · exact eq_f g (eq_t z rfl)
      · rcases ahead2 h k (by omega) with ⟨g, _⟩ | ⟨_, e3, _⟩
        · exact absurd g k3
        · exact eq_f (nI_nn (by omega)) (eq_f (fun z => by have := (nI_ltI (a := 60) (by decide) (by omega)).mp z; omega) (eq_b e3 (eq_f (show ¬ (1 : Int32) = 0 by decide) rfl)))
  · exact Cal.same (r := -1) h0 (eq_b e1 (eq_t rfl rfl)) (eq_b e2 (eq_t rfl rfl))
/-- the first number from k on, of r of them, at which something is so -/
def fst1 (P : Nat → Bool) : Nat → Nat → Int32
  | _, 0 => -1
  | k, r + 1 => if P k = true then nI k else fst1 P (k + 1) r
-- alike
abbrev xkL (n0 : Nat) : Nat → Int32 → Int32 → Mem → Option (Int32 × Mem) := loopN (bX11_alike_56 n0) (fun _ _ _ => none)
theorem xalk {n0 last : Nat} {f g : Nat → Nat} {M : Mem} (h60 : last ≤ 60) (hf : ∀ j, j ≤ last → f j ≤ 23 ∧ g j ≤ 23) (h1 : ∀ j, j ≤ last → gA M 26 j = nI (f j)) (h2 : ∀ j, j ≤ last → gA M 27 j = nI (g j)) : ∀ w k, k ≤ last + 1 → last + 1 < w + k → xkL n0 w (nI last) (nI k) M = some (fst1 (fun j => decide (f j = g j)) k (last + 1 - k), M)
  | 0, k, hk, hw => by omega
  | w + 1, k, hk, hw => by
    show bX11_alike_56 n0 (xkL n0 w) (nI last) (nI k) M = _
    unfold bX11_alike_56
    by_cases z : k = last + 1
    · rw [z, Nat.sub_self]
      exact eq_t (nI_lt (by omega) (by omega)) rfl
    · have ck : (nI k).toNatClampNeg = k := nI_clamp (by omega)
      have ok : ¬ oob (nI k) 61 := nI_in (by omega) (by decide)
      obtain ⟨b1, b2⟩ := hf k (by omega)
      have st : ¬ nI last < nI k := fun y => by have := (nI_ltI (by omega) (by omega)).mp y; omega
      rw [show last + 1 - k = (last + 1 - (k + 1)) + 1 by omega]
      show _ = some (if decide (f k = g k) = true then nI k else fst1 (fun j => decide (f j = g j)) (k + 1) (last + 1 - (k + 1)), M)
      by_cases y : f k = g k
      · rw [if_pos (decide_eq_true y)]
        exact eq_f st (eq_f ok (eq_f ok (eq_t (by rw [ck, h1 k (by omega), h2 k (by omega), y]) rfl)))
      · rw [if_neg (fun u => y (of_decide_eq_true u))]
        refine eq_f st (eq_f ok (eq_f ok (eq_f (by rw [ck, h1 k (by omega), h2 k (by omega)]; exact fun u => y ((nI_eq (by omega) (by omega)).mp u)) ?_)))
        rw [show nI k + 1 = nI (k + 1) from nI_add k 1]
        exact xalk h60 hf h1 h2 w (k + 1) (by omega) (by omega)
abbrev ykL (n0 : Nat) : Nat → Int32 → Int32 → Int32 → Mem → Option (Int32 × Mem) := loopN (bX12_alike_31 n0) (fun _ _ _ _ => none)
theorem yalk {n0 b c1 c2 m : Nat} {T : TP} {pm : Nat → Int32 × Nat} (hn : 1700 ≤ n0) (hc1 : c1 < T.nc) (hc2 : c2 < T.nc) (hO : PsO T.nt T.nc pm) (hm : m ≤ 9999) : ∀ w k M (s : Nat × List (Nat × Nat)), k ≤ min 60 (9999 - m) + 1 → min 60 (9999 - m) + 1 < w + k → YT n0 b T M → LyD 1 T.nc (m + k) (trP T m pm k) s M → sOk T.nd s → gA M 28 0 = nI m → ∃ M', ykL n0 w (nI c1) (nI c2) (nI k) M = some (fst1 (fun j => decide (hrs T.hF T.gF c1 m (pm c1) j = hrs T.hF T.gF c2 m (pm c2) j)) k (min 60 (9999 - m) + 1 - k), M') ∧ YF (lP 1) M M'
  | 0, k, M, s, hk, hw, _, _, _, _ => by omega
  | w + 1, k, M, s, hk, hw, hY, hL, hs, h28 => by
    show ∃ M', bX12_alike_31 n0 (ykL n0 w) (nI c1) (nI c2) (nI k) M = _ ∧ _
    unfold bX12_alike_31
    by_cases z : k = min 60 (9999 - m) + 1
    · rw [z, Nat.sub_self]
      exact ⟨M, eq_b (yahF (lo := 0) (hi := 60) h28 hm (by decide) (by decide) (by omega) (by omega)) (eq_t rfl rfl), YF.r⟩
    · obtain ⟨l1, M1, e1, e2⟩ := yhr hY (v := 1) (by decide) hL.1 (trP_ok hO k) (by omega) hc1
      have f1 : YF (lP 1) M M1 := e2.y
      have Y1 := hY.yf f1 lP28
      have h5 := hY.2.1.2.1
      have hl := hs.l
      have L1 : LyD 1 T.nc (m + k) (trP T m pm k) s M1 := hL.fr (P := fun _ _ => False) e2.y h5 (by omega) (fun _ _ z => z.elim)
      obtain ⟨l2, M2, e3, e4⟩ := yhr Y1 (v := 1) (by decide) L1.1 (trP_ok hO k) (by omega) hc2
      have f2 : YF (lP 1) M M2 := f1.tr e4.y
      have L2 : LyD 1 T.nc (m + k) (trP T m pm k) s M2 := L1.fr (P := fun _ _ => False) e4.y h5 (by omega) (fun _ _ z => z.elim)
      have a1 := yahT (n0 := n0) (lo := 0) (hi := 60) (k := k) h28 (by omega) (by omega) (by decide) (by omega)
      rw [show min 60 (9999 - m) + 1 - k = (min 60 (9999 - m) + 1 - (k + 1)) + 1 by omega]
      show ∃ M', _ = some (if decide (hrs T.hF T.gF c1 m (pm c1) k = hrs T.hF T.gF c2 m (pm c2) k) = true then nI k else fst1 _ (k + 1) (min 60 (9999 - m) + 1 - (k + 1)), M') ∧ _
      by_cases y : hrs T.hF T.gF c1 m (pm c1) k = hrs T.hF T.gF c2 m (pm c2) k
      · rw [if_pos (decide_eq_true y)]
        exact ⟨M2, eq_b a1 (eq_f (show ¬ (1 : Int32) = 0 by decide) (eq_b e1 (eq_b e3 (eq_t (congrArg nI y) rfl)))), f2⟩
      · rw [if_neg (fun u => y (of_decide_eq_true u))]
        obtain ⟨M3, g1, g2, g3, g4⟩ := ypassD (v := 1) hn (hY.yf f2 lP28) (by decide) L2 (trP_ok hO k) hs (by omega)
        obtain ⟨M', r1, r2⟩ := yalk hn hc1 hc2 hO hm w (k + 1) M3 _ (by omega) (by omega) ((hY.yf f2 lP28).yf g4 lP28) g2 g3 (m28f (m28f h28 f2 n28) g4 n28)
        refine ⟨M', eq_b a1 (eq_f (show ¬ (1 : Int32) = 0 by decide) (eq_b e1 (eq_b e3 (eq_f (fun u => y ((nI_eq (Nat.lt_of_le_of_lt l1 (by decide)) (Nat.lt_of_le_of_lt l2 (by decide))).mp u)) (eq_b g1 ?_))))), f2.tr (g4.tr r2)⟩
        rw [show nI k + 1 = nI (k + 1) from nI_add k 1]
        exact r1
theorem cAlike {n0 : Nat} {x y : Int32} {MX MY : Mem} (hn : 1700 ≤ n0) (h : R n0 MX MY) : Cal n0 (fX11_alike n0 x y MX) (fX12_alike n0 x y MY) := by
  have h0 := h
  obtain ⟨q, b, T, nr, C, m, pm, s, h⟩ := h
  obtain ⟨h1, h2, h3, h4, _⟩ := id h
  have hm := h2.1
  have hl := h2.2.2.l
  have h5 := h1.2.2.2.1.2.1.2.1
  have y28 : gA MY 28 0 = nI m := h4.1.1
  unfold fX11_alike fX12_alike
  rcases isCo h1 x with ⟨c, hc, rfl, e1, e2⟩ | ⟨z, e1, e2⟩
  · rcases isCo h1 y with ⟨d, hd, rfl, e3, e4⟩ | ⟨z, e3, e4⟩
    · by_cases g : c = d
      · subst g
        exact Cal.same (r := -1) h0 (eq_b e1 (eq_f (show ¬ (1 : Int32) = 0 by decide) (eq_b e3 (eq_f (show ¬ (1 : Int32) = 0 by decide) (eq_t rfl rfl))))) (eq_b e2 (eq_f (show ¬ (1 : Int32) = 0 by decide) (eq_b e4 (eq_f (show ¬ (1 : Int32) = 0 by decide) (eq_t rfl rfl)))))
      · have hne : ¬ nI c = nI d := fun z => g ((nI_eq (by omega) (by omega)).mp z)
        obtain ⟨X1, a1, a2, a3⟩ := xfc (n0 := n0) (q1 := 26) (most := 60) hn h1.2.2.2.1 h3 h2.2.1 hc hm (by omega) (Or.inl rfl)
        have T1 := h1.2.2.2.1.xf a3 (fun a z => by omega)
        have S1 := h3.fr a3 (fun a z y => by unfold stA at y; omega)
        obtain ⟨X2, b1, b2, b3⟩ := xfc (n0 := n0) (q1 := 27) (most := 60) hn T1 S1 h2.2.1 hd hm (by omega) (Or.inr rfl)
        have a26 : ∀ j, j ≤ min 60 (9999 - m) → gA X2 26 j = nI (hrs T.hF T.gF c m (pm c) j) := fun j hj => by
          rw [b3.gA (a := 26) (by decide) (by decide)]
          exact a2 j hj
        have e5 := xalk (n0 := n0) (last := min 60 (9999 - m)) (f := hrs T.hF T.gF c m (pm c)) (g := hrs T.hF T.gF d m (pm d)) (M := X2) (by omega) (fun j hj => ⟨hrs_le h1.2.2.2.2.1 hc (h2.2.1 c hc) (by omega), hrs_le h1.2.2.2.2.1 hd (h2.2.1 d hd) (by omega)⟩) a26 b2 n0 0 (by omega) (by omega)
        obtain ⟨Y1, c1, c2, c3⟩ := ycopyD (n0 := n0) (v := 1) (u := 0) hn (by decide) (by decide) (by decide) h5 (by omega) h4
        obtain ⟨Y2, d1, d2⟩ := yalk (n0 := n0) (b := b) (m := m) hn hc hd h2.2.1 hm n0 0 Y1 s (by omega) (by omega) (h1.2.2.2.2.1.yf c3 lP28) c2 h2.2.2 (m28f y28 c3 n28)
        exact Cal.scr h (eq_b e1 (eq_f (show ¬ (1 : Int32) = 0 by decide) (eq_b e3 (eq_f (show ¬ (1 : Int32) = 0 by decide) (eq_f hne (eq_b a1 (eq_b b1 e5))))))) (eq_b e2 (eq_f (show ¬ (1 : Int32) = 0 by decide) (eq_b e4 (eq_f (show ¬ (1 : Int32) = 0 by decide) (eq_f hne (eq_b c1 d1)))))) ((a3.wk (fun a z => by unfold scA; omega)).tr (b3.wk (fun a z => by unfold scA; omega))) (lsc (c3.tr d2))
    · exact Cal.same (r := -1) h0 (eq_b e1 (eq_f (show ¬ (1 : Int32) = 0 by decide) (eq_b e3 (eq_t rfl rfl)))) (eq_b e2 (eq_f (show ¬ (1 : Int32) = 0 by decide) (eq_b e4 (eq_t rfl rfl))))
  · exact Cal.same (r := -1) h0 (eq_b e1 (eq_t rfl rfl)) (eq_b e2 (eq_t rfl rfl))
-- when
theorem fnS_bit {du : Nat → Bool} {m nd : Nat} {s : Nat × List (Nat × Nat)} (hn : nd ≤ 6) (h : sOk nd s) (e : Nat) (he : e < 6) : ∀ d, d ≤ nd → (fnS du m s d).1 / 2 ^ e % 2 = if e < d ∧ s.1 / 2 ^ e % 2 = 0 ∧ du e = true then 1 else s.1 / 2 ^ e % 2
  | 0, _ => by rw [if_neg (fun z => by omega)]; rfl
  | d + 1, hd => by
    have ih := fnS_bit hn h e he d (by omega) (du := du) (m := m)
    have sok := fnS_ok (du := du) (m := m) hn h d (by omega)
    have s64 : (fnS du m s d).1 < 64 := Nat.lt_of_lt_of_le sok.1 (p64 hn)
    have st : fnS du m s (d + 1) = if (fnS du m s d).1 / 2 ^ d % 2 = 0 ∧ du d = true then ((fnS du m s d).1 + 2 ^ d, (fnS du m s d).2 ++ [(m, d)]) else fnS du m s d := rfl
    have idd := fnS_bit hn h d (by omega) d (by omega) (du := du) (m := m)
    rw [if_neg (fun z => by omega)] at idd
    rw [st]
    by_cases g : (fnS du m s d).1 / 2 ^ d % 2 = 0 ∧ du d = true
    · rw [if_pos g]
      show ((fnS du m s d).1 + 2 ^ d) / 2 ^ e % 2 = _
      rw [bt_at _ s64 d (by omega) g.1 e he]
      by_cases z : e = d
      · rw [if_pos z, z, if_pos ⟨by omega, by rw [← idd]; exact g.1, g.2⟩]
      · rw [if_neg z, ih]
        by_cases y : e < d ∧ s.1 / 2 ^ e % 2 = 0 ∧ du e = true
        · rw [if_pos y, if_pos ⟨by omega, y.2⟩]
        · rw [if_neg y, if_neg (fun u => y ⟨by omega, u.2⟩)]
    · rw [if_neg g, ih]
      by_cases y : e < d ∧ s.1 / 2 ^ e % 2 = 0 ∧ du e = true
      · rw [if_pos y, if_pos ⟨by omega, y.2⟩]
      · rw [if_neg y]
        by_cases z : e = d
        · subst z
          rw [if_neg (fun u => g ⟨by rw [idd]; exact u.2.1, u.2.2⟩)]
        · rw [if_neg (fun u => y ⟨by omega, u.2⟩)]
abbrev xwL (n0 : Nat) : Nat → Int32 → Int32 → Int32 → Mem → Option (Int32 × Mem) := loopN (bX11_when_50 n0) (fun _ _ _ _ => none)
theorem xwhn {n0 q d last : Nat} {T : TP} {f : Nat → Nat} {M : Mem} (hT : XT n0 q T M) (hq : gR M 1 = q) (hd : d < T.nd) (h60 : last ≤ 60) (hf : ∀ j, j ≤ last → f j ≤ 23) (h1 : ∀ j, j ≤ last → gA M 26 j = nI (f j)) : ∀ w k, k ≤ last + 1 → last + 1 < w + k → xwL n0 w (nI d) (nI last) (nI k) M = some (fst1 (fun j => decide (f j = T.dh d)) k (last + 1 - k), M)
  | 0, k, hk, hw => by omega
  | w + 1, k, hk, hw => by
    show bX11_when_50 n0 (xwL n0 w) (nI d) (nI last) (nI k) M = _
    have h6 := hT.2.1.2.2.1
    have d2 := (hT.2.1.2.2.2 d hd).2
    unfold bX11_when_50
    by_cases z : k = last + 1
    · rw [z, Nat.sub_self]
      exact eq_t (nI_lt (by omega) (by omega)) rfl
    · have ck : (nI k).toNatClampNeg = k := nI_clamp (by omega)
      have cd : (nI d).toNatClampNeg = d := nI_clamp (by omega)
      have ok : ¬ oob (nI k) 61 := nI_in (by omega) (by decide)
      have od : ¬ oob (nI d) 6 := nI_in (by omega) (by decide)
      have b1 := hf k (by omega)
      have q11 : gA M (gR M 1 + 11) (nI d).toNatClampNeg = nI (T.dh d) := by rw [hq, cd]; exact (hT.2.2.2.2 d hd).2
      have st : ¬ nI last < nI k := fun y => by have := (nI_ltI (by omega) (by omega)).mp y; omega
      rw [show last + 1 - k = (last + 1 - (k + 1)) + 1 by omega]
      show _ = some (if decide (f k = T.dh d) = true then nI k else fst1 (fun j => decide (f j = T.dh d)) (k + 1) (last + 1 - (k + 1)), M)
      by_cases y : f k = T.dh d
      · rw [if_pos (decide_eq_true y)]
        exact eq_f st (eq_f ok (eq_f od (eq_t (by rw [ck, h1 k (by omega), q11, y]) rfl)))
      · rw [if_neg (fun u => y (of_decide_eq_true u))]
        refine eq_f st (eq_f ok (eq_f od (eq_f (by rw [ck, h1 k (by omega), q11]; exact fun u => y ((nI_eq (by omega) (by omega)).mp u)) ?_)))
        rw [show nI k + 1 = nI (k + 1) from nI_add k 1]
        exact xwhn hT hq hd h60 hf h1 w (k + 1) (by omega) (by omega)
abbrev ywL (n0 : Nat) : Nat → Int32 → Int32 → Mem → Option (Int32 × Mem) := loopN (bX12_when_18 n0) (fun _ _ _ => none)
theorem ywhn {n0 b d m : Nat} {T : TP} {pm : Nat → Int32 × Nat} (hn : 1700 ≤ n0) (hd : d < T.nd) (hO : PsO T.nt T.nc pm) (hm : m ≤ 9999) : ∀ w k M (s : Nat × List (Nat × Nat)), k ≤ min 60 (9999 - m) + 1 → min 60 (9999 - m) + 1 < w + k → YT n0 b T M → LyD 1 T.nc (m + k) (trP T m pm k) s M → sOk T.nd s → gA M 28 0 = nI m → ∃ M', ywL n0 w (nI d) (nI k) M = some (if k ≤ min 60 (9999 - m) then (if s.1 / 2 ^ d % 2 = 1 then nI k else fst1 (fun j => decide (hrs T.hF T.gF (T.dc d) m (pm (T.dc d)) j = T.dh d)) (k + 1) (min 60 (9999 - m) - k)) else -1, M') ∧ YF (lP 1) M M'
  | 0, k, M, s, hk, hw, _, _, _, _ => by omega
  | w + 1, k, M, s, hk, hw, hY, hL, hs, h28 => by
    show ∃ M', bX12_when_18 n0 (ywL n0 w) (nI d) (nI k) M = _ ∧ _
    have h6 := hY.2.1.2.2.1
    have s64 : s.1 < 64 := Nat.lt_of_lt_of_le hs.1 (p64 h6)
    unfold bX12_when_18
    by_cases z : k = min 60 (9999 - m) + 1
    · rw [if_neg (by omega)]
      exact ⟨M, eq_b (yahF (lo := 0) (hi := 60) h28 hm (by decide) (by decide) (by omega) (by omega)) (eq_t rfl rfl), YF.r⟩
    · rw [if_pos (by omega)]
      have a1 := yahT (n0 := n0) (lo := 0) (hi := 60) (k := k) h28 (by omega) (by omega) (by decide) (by omega)
      have a2 : fX12_has2 n0 (gA M 31 (Int32.toNatClampNeg 1)) (nI d) M = some (bI (s.1 / 2 ^ d % 2 = 1), M) := by
        rw [show gA M 31 (Int32.toNatClampNeg 1) = nI s.1 from hL.2.1]
        exact yhas2 s64 (by omega)
      by_cases y : s.1 / 2 ^ d % 2 = 1
      · rw [if_pos y]
        exact ⟨M, eq_b a1 (eq_f (show ¬ (1 : Int32) = 0 by decide) (eq_f (by decide) (eq_b a2 (eq_f (show ¬ bI (s.1 / 2 ^ d % 2 = 1) = 0 by rw [bI_t y]; decide) rfl)))), YF.r⟩
      · rw [if_neg y]
        obtain ⟨M1, g1, g2, g3, g4⟩ := ypassD (v := 1) hn hY (by decide) hL (trP_ok hO k) hs (by omega)
        obtain ⟨M', r1, r2⟩ := ywhn hn hd hO hm w (k + 1) M1 _ (by omega) (by omega) (hY.yf g4 lP28) g2 g3 (m28f h28 g4 n28)
        have bit : (nxS T (m + k) (trP T m pm k) s).1 / 2 ^ d % 2 = 1 ↔ hrs T.hF T.gF (T.dc d) m (pm (T.dc d)) (k + 1) = T.dh d := by
          have e := fnS_bit (du := due T (nxP T (m + k) (trP T m pm k)) (m + k + 1)) (m := m + k + 1) h6 hs d (by omega) T.nd (Nat.le_refl _)
          have e2 : (nxS T (m + k) (trP T m pm k) s).1 / 2 ^ d % 2 = if d < T.nd ∧ s.1 / 2 ^ d % 2 = 0 ∧ due T (nxP T (m + k) (trP T m pm k)) (m + k + 1) d = true then 1 else s.1 / 2 ^ d % 2 := e
          rw [e2]
          by_cases u : hrs T.hF T.gF (T.dc d) m (pm (T.dc d)) (k + 1) = T.dh d
          · rw [if_pos ⟨hd, by omega, decide_eq_true u⟩]
            exact ⟨fun _ => u, fun _ => rfl⟩
          · rw [if_neg (fun v => u (of_decide_eq_true v.2.2))]
            exact ⟨fun v => absurd v y, fun v => absurd v u⟩
        refine ⟨M', eq_b a1 (eq_f (show ¬ (1 : Int32) = 0 by decide) (eq_f (by decide) (eq_b a2 (eq_t (show bI (s.1 / 2 ^ d % 2 = 1) = 0 from bI_f y) (eq_b g1 ?_))))), g4.tr r2⟩
        rw [show nI k + 1 = nI (k + 1) from nI_add k 1]
        refine r1.trans ?_
        congr 2
        by_cases v : k + 1 ≤ min 60 (9999 - m)
        · rw [if_pos v, show min 60 (9999 - m) - k = (min 60 (9999 - m) - (k + 1)) + 1 by omega]
          show _ = if decide (hrs T.hF T.gF (T.dc d) m (pm (T.dc d)) (k + 1) = T.dh d) = true then nI (k + 1) else _
          by_cases u : hrs T.hF T.gF (T.dc d) m (pm (T.dc d)) (k + 1) = T.dh d
          · rw [if_pos (bit.mpr u), if_pos (decide_eq_true u)]
          · rw [if_neg (fun x => u (bit.mp x)), if_neg (fun x => u (of_decide_eq_true x))]
        · rw [if_neg v, show min 60 (9999 - m) - k = 0 by omega]
          rfl
theorem cWhen {n0 : Nat} {x : Int32} {MX MY : Mem} (hn : 1700 ≤ n0) (h : R n0 MX MY) : Cal n0 (fX11_when n0 x MX) (fX12_when n0 x MY) := by
  have h0 := h
  obtain ⟨q, b, T, nr, C, m, pm, s, h⟩ := h
  obtain ⟨h1, h2, h3, h4, _⟩ := id h
  have hm := h2.1
  have hl := h2.2.2.l
  obtain ⟨o1, o2, o3, o4⟩ := h1.2.2.2.1.2.1
  have y28 : gA MY 28 0 = nI m := h4.1.1
  unfold fX11_when fX12_when
  rcases isDo h1 x with ⟨d, hd, rfl, e1, e2⟩ | ⟨z, e1, e2⟩
  · have cd : (nI d).toNatClampNeg = d := nI_clamp (by omega)
    have od : ¬ oob (nI d) 6 := nI_in (by omega) (by decide)
    have dn := h3.2.2.2.2.1 d hd
    have dc := (o4 d hd).1
    obtain ⟨Y1, c1, c2, c3⟩ := ycopyD (n0 := n0) (v := 1) (u := 0) hn (by decide) (by decide) (by decide) o2 (by omega) h4
    obtain ⟨Y2, d1, d2⟩ := ywhn (n0 := n0) (b := b) (m := m) hn hd h2.2.1 hm n0 0 Y1 s (by omega) (by omega) (h1.2.2.2.2.1.yf c3 lP28) c2 h2.2.2 (m28f y28 c3 n28)
    rw [if_pos (Nat.zero_le _)] at d1
    by_cases g : s.1 / 2 ^ d % 2 = 1
    · rw [if_pos g] at d1
      exact Cal.scr (r := 0) h (eq_b e1 (eq_f (show ¬ (1 : Int32) = 0 by decide) (eq_f od (eq_t (by rw [cd, dn, g]; rfl) rfl)))) (eq_b e2 (eq_f (show ¬ (1 : Int32) = 0 by decide) (eq_b c1 d1))) XF.r (lsc (c3.tr d2))
    · rw [if_neg g] at d1
      obtain ⟨X1, a1, a2, a3⟩ := xfc (n0 := n0) (q1 := 26) (most := 60) hn h1.2.2.2.1 h3 h2.2.1 dc hm (by omega) (Or.inl rfl)
      have T1 := h1.2.2.2.1.xf a3 (fun a z => by omega)
      have e5 := xwhn (n0 := n0) (last := min 60 (9999 - m)) (f := hrs T.hF T.gF (T.dc d) m (pm (T.dc d))) (M := X1) T1 (by rw [a3.1]; exact h1.2.1) hd (by omega) (fun j hj => hrs_le h1.2.2.2.2.1 dc (h2.2.1 _ dc) (by omega)) a2 n0 1 (by omega) (by omega)
      rw [Nat.add_sub_cancel] at e5
      refine Cal.scr h (eq_b e1 (eq_f (show ¬ (1 : Int32) = 0 by decide) (eq_f od (eq_f (by rw [cd, dn, show s.1 / 2 ^ d % 2 = 0 by omega]; decide) (eq_f od (eq_b (z := (nI (min 60 (9999 - m)), X1)) ?_ e5)))))) (eq_b e2 (eq_f (show ¬ (1 : Int32) = 0 by decide) (eq_b c1 d1))) (a3.wk (fun a z => by unfold scA; omega)) (lsc (c3.tr d2))
      show fX11_foresee n0 26 (gA MX (gR MX 1 + 10) (nI d).toNatClampNeg) 60 MX = _
      rw [h1.2.1, cd, (h1.2.2.2.1.2.2.2.2 d hd).1]
      exact a1
  · exact Cal.same (r := -1) h0 (eq_b e1 (eq_t rfl rfl)) (eq_b e2 (eq_t rfl rfl))
end
section
/-! EVENINGS ON BOTH SIDES -/
def stay (f : Nat → Nat) : Nat → Nat → Nat
  | k, 0 => k
  | k, r + 1 => if f (k + 1) = f 0 then stay f (k + 1) r else k
theorem stay_le (f : Nat → Nat) : ∀ r k, stay f k r ≤ k + r
  | 0, k => Nat.le_refl _
  | r + 1, k => by
    show (if f (k + 1) = f 0 then stay f (k + 1) r else k) ≤ _
    by_cases g : f (k + 1) = f 0
    · rw [if_pos g]
      have := stay_le f r (k + 1)
      omega
    · rw [if_neg g]; omega
abbrev xtL (n0 : Nat) : Nat → Int32 → Int32 → Mem → Option (Int32 × Mem) := loopN (bX11_countStaying_34 n0) (fun _ _ _ => none)
theorem xsty {n0 last : Nat} {f : Nat → Nat} {M : Mem} (h60 : last ≤ 60) (hf : ∀ j, j ≤ last → f j ≤ 23) (h1 : ∀ j, j ≤ last → gA M 26 j = nI (f j)) : ∀ w k, k ≤ last → last + 1 < w + k + 1 → xtL n0 w (nI last) (nI (k + 1)) M = some (nI (stay f k (last - k)), M)
  | 0, k, hk, hw => by omega
  | w + 1, k, hk, hw => by
    show bX11_countStaying_34 n0 (xtL n0 w) (nI last) (nI (k + 1)) M = _
    unfold bX11_countStaying_34
    by_cases z : k = last
    · rw [z, Nat.sub_self]
      exact eq_t (nI_lt (by omega) (by omega)) rfl
    · have ck : (nI (k + 1)).toNatClampNeg = k + 1 := nI_clamp (by omega)
      have ok : ¬ oob (nI (k + 1)) 61 := nI_in (by omega) (by decide)
      have b1 := hf (k + 1) (by omega)
      have b0 := hf 0 (by omega)
      have st : ¬ nI last < nI (k + 1) := fun y => by have := (nI_ltI (by omega) (by omega)).mp y; omega
      have h0 : gA M 26 (Int32.toNatClampNeg 0) = nI (f 0) := h1 0 (by omega)
      rw [show last - k = (last - (k + 1)) + 1 by omega]
      show _ = some (nI (if f (k + 1) = f 0 then stay f (k + 1) (last - (k + 1)) else k), M)
      by_cases y : f (k + 1) = f 0
      · rw [if_pos y]
        refine eq_f st (eq_f ok (eq_f (by decide) (eq_t (by rw [ck, h1 _ (by omega), h0, y]) ?_)))
        rw [show nI (k + 1) + 1 = nI (k + 1 + 1) from nI_add (k + 1) 1]
        exact xsty h60 hf h1 w (k + 1) (by omega) (by omega)
      · rw [if_neg y]
        exact eq_f st (eq_f ok (eq_f (by decide) (eq_f (by rw [ck, h1 _ (by omega), h0]; exact fun u => y ((nI_eq (by omega) (by omega)).mp u)) (by rw [nIs]))))
theorem xcs {n0 q c m : Nat} {t : Int32} {T : TP} {pm : Nat → Int32 × Nat} {s : Nat × List (Nat × Nat)} {M : Mem} (hn : 1700 ≤ n0) (hT : XT n0 q T M) (hS : SX q T.nc T.nd m pm s M) (hc : c < T.nc) (ht : tOk T.nt t) (hm : m ≤ 9999) (hf : ∀ j, j ≤ min 60 (9999 - m) → hrs T.hF T.gF c m (t, 0) j ≤ 23) : ∃ M', fX11_countStaying n0 (nI c) t M = some (nI (stay (hrs T.hF T.gF c m (t, 0)) 0 (min 60 (9999 - m))), M') ∧ XF (fun a => a = 26) M M' := by
  have h5 := hT.2.1.2.1
  have f1 : XF (fun a => a = 26) M (hld M (nI c) t (nI 0) (nI m)) := hld_f
  obtain ⟨M2, e1, e2, e3⟩ := xfor (n0 := n0) (q1 := 26) (most := 60) hn (hT.1.xf f1 (fun a z => by omega)) (hld_p (h := 0) hS.1) (by omega) ⟨ht, Nat.zero_le _⟩ hm (by decide) (Or.inl rfl)
  refine ⟨M2, ?_, f1.tr e3⟩
  unfold fX11_countStaying
  rw [hS.2.2.1]
  exact eq_b (z := hld M (nI c) t (nI 0) (nI m)) xhold (eq_b e1 (xsty (by omega) hf e2 n0 0 (by omega) (by omega)))
theorem pmu {T : TP} {m c : Nat} {pm : Nat → Int32 × Nat} {v : Int32 × Nat} {k : Nat} : trP T m (upP pm c v) k c = tr T.gF c m v k := by
  show tr T.gF c m (if c = c then v else pm c) k = _
  rw [if_pos rfl]
abbrev yvL (n0 : Nat) (k27 : Int32 → Int32 → Int32 → Int32 → Int32 → Mem → Option (Int32 × Mem)) : Nat → Int32 → Int32 → Int32 → Int32 → Int32 → Int32 → Int32 → Int32 → Int32 → Mem → Option (Int32 × Mem) := loopN (bX12_evening_72 n0 k27) (fun _ _ _ _ _ _ _ _ _ _ => none)
theorem ysty {n0 b c m : Nat} {T : TP} {pm : Nat → Int32 × Nat} {v : Int32 × Nat} {s : Nat × List (Nat × Nat)} {k27 : Int32 → Int32 → Int32 → Int32 → Int32 → Mem → Option (Int32 × Mem)} {x2 x3 x4 x5 : Int32} (hn : 1700 ≤ n0) (hc : c < T.nc) (hO : PsO T.nt T.nc (upP pm c v)) (hs : sOk T.nd s) (hm : m ≤ 9999) (hf : ∀ j, j ≤ min 60 (9999 - m) → hrs T.hF T.gF c m v j ≤ 23) : ∀ w k M, k ≤ min 60 (9999 - m) → min 60 (9999 - m) + 2 < w + k + 1 → YT n0 b T M → LyD 1 T.nc (m + k) (trP T m (upP pm c v) k) s M → gA M 28 0 = nI m → ∃ M', yvL n0 k27 w (nI c) x2 x3 x4 x5 (nI (hrs T.hF T.gF c m v 0)) (nI k) 1 (nI (k + 1)) M = fX12_evening_132 n0 k27 (nI c) x2 x3 x4 x5 (nI (stay (hrs T.hF T.gF c m v) k (min 60 (9999 - m) - k))) M' ∧ YF (lP 1) M M'
  | 0, k, M, hk, hw, _, _, _ => by omega
  | w + 1, k, M, hk, hw, hY, hL, h28 => by
    show ∃ M', bX12_evening_72 n0 k27 (yvL n0 k27 w) (nI c) x2 x3 x4 x5 (nI (hrs T.hF T.gF c m v 0)) (nI k) 1 (nI (k + 1)) M = _ ∧ _
    unfold bX12_evening_72
    by_cases z : k = min 60 (9999 - m)
    · rw [← z, Nat.sub_self]
      exact ⟨M, eq_b (yahF (lo := 1) (hi := 60) h28 hm (by decide) (by decide) (by omega) (by omega)) (eq_t rfl rfl), YF.r⟩
    · have a1 := yahT (n0 := n0) (lo := 1) (hi := 60) (k := k + 1) h28 (by omega) (by omega) (by decide) (by omega)
      obtain ⟨M1, g1, g2, g3⟩ := ytickD (v := 1) hn hY (by decide) hL (trP_ok hO k) hs (by omega)
      obtain ⟨l1, M2, e1, e2⟩ := yhr (hY.yf g3 lP28) (v := 1) (by decide) g2.1 (trP_ok hO (k + 1)) (by omega) hc
      have ev : T.hF c (trP T m (upP pm c v) (k + 1) c).1 (trP T m (upP pm c v) (k + 1) c).2 (m + k + 1) = hrs T.hF T.gF c m v (k + 1) := by rw [pmu]; rfl
      rw [show (nxP T (m + k) (trP T m (upP pm c v) k)) = trP T m (upP pm c v) (k + 1) from rfl, ev] at e1
      have f2 : YF (lP 1) M M2 := g3.tr e2.y
      have h5 := hY.2.1.2.1
      have hl := hs.l
      have L2 : LyD 1 T.nc (m + (k + 1)) (trP T m (upP pm c v) (k + 1)) s M2 := LyD.fr (P := fun _ _ => False) g2 e2.y h5 (by omega) (fun _ _ z => z.elim)
      have b1 := hf (k + 1) (by omega)
      have b0 := hf 0 (by omega)
      have k1 : nI (k + 1) + 1 = nI (k + 1 + 1) := nI_add (k + 1) 1
      rw [show min 60 (9999 - m) - k = (min 60 (9999 - m) - (k + 1)) + 1 by omega]
      show ∃ M', _ = fX12_evening_132 n0 k27 (nI c) x2 x3 x4 x5 (nI (if hrs T.hF T.gF c m v (k + 1) = hrs T.hF T.gF c m v 0 then stay (hrs T.hF T.gF c m v) (k + 1) (min 60 (9999 - m) - (k + 1)) else k)) M' ∧ _
      by_cases y : hrs T.hF T.gF c m v (k + 1) = hrs T.hF T.gF c m v 0
      · rw [if_pos y]
        obtain ⟨M', r1, r2⟩ := ysty (k27 := k27) (x2 := x2) (x3 := x3) (x4 := x4) (x5 := x5) hn hc hO hs hm hf w (k + 1) M2 (by omega) (by omega) (hY.yf f2 lP28) L2 (m28f h28 f2 n28)
        refine ⟨M', eq_b a1 (eq_f (show ¬ (1 : Int32) = 0 by decide) (eq_f (by decide) (eq_b g1 (eq_b e1 (eq_t (congrArg nI y) ?_))))), f2.tr r2⟩
        unfold fX12_evening_110 fX12_evening_124
        rw [k1]
        exact eq_f (by decide) r1
      · rw [if_neg y]
        refine ⟨M2, eq_b a1 (eq_f (show ¬ (1 : Int32) = 0 by decide) (eq_f (by decide) (eq_b g1 (eq_b e1 (eq_f (fun u => y ((nI_eq (by omega) (by omega)).mp u)) ?_))))), f2⟩
        unfold fX12_evening_110 fX12_evening_124
        rw [k1]
        refine eq_t rfl ?_
        obtain ⟨w', rfl⟩ : ∃ w', w = w' + 1 := ⟨w - 1, by omega⟩
        show bX12_evening_72 n0 k27 (yvL n0 k27 w') (nI c) x2 x3 x4 x5 (nI (hrs T.hF T.gF c m v 0)) (nI k) 0 (nI (k + 1 + 1)) M2 = _
        unfold bX12_evening_72
        by_cases u : k + 1 + 1 ≤ 60 ∧ m + (k + 1 + 1) ≤ 9999
        · exact eq_b (yahT (lo := 1) (hi := 60) (m28f h28 f2 n28) (by omega) u.1 (by decide) u.2) (eq_f (show ¬ (1 : Int32) = 0 by decide) (eq_t rfl rfl))
        · exact eq_b (yahF (lo := 1) (hi := 60) (m28f h28 f2 n28) hm (by decide) (by decide) (by omega) u) (eq_t rfl rfl)
/-- a thing put into a palm of the layer that is tried -/
theorem yput1 {n0 nc m c : Nat} {t : Int32} {pm : Nat → Int32 × Nat} {s : Nat × List (Nat × Nat)} {M : Mem} (hL : LyD 1 nc m pm s M) (h5 : nc ≤ 5) (hc : c < nc) : ∃ M', fX12_puts n0 1 (nI c) t M = some M' ∧ LyD 1 nc m (upP pm c (t, 0)) s M' ∧ YF (lP 1) M M' := by
  refine ⟨_, yputs (v := 1) (by decide) (by omega), ⟨⟨by rw [gA_sA_ne (by decide), gA_sA_ne (by decide)]; exact hL.1.1, fun j hj => ?_⟩, by rw [gA_sA_ne (by decide), gA_sA_ne (by decide)]; exact hL.2.1, by rw [gA_sA_ne (by decide), gA_sA_ne (by decide)]; exact hL.2.2.1, fun i p hp => by rw [gA_sA_ne (by decide), gA_sA_ne (by decide)]; exact hL.2.2.2 i p hp⟩, (YF.r.a (by unfold lP tP; omega)).a (by unfold lP tP; omega)⟩
  rw [gA_sA_ne (by decide), gA_sA, if_pos rfl, gA_sA, if_pos rfl, gA_sA_ne (by decide)]
  unfold upP
  by_cases g : j = c
  · rw [if_pos (show 5 * 1 + j = 5 * 1 + c by omega), if_pos g, if_pos (show 5 * 1 + j = 5 * 1 + c by omega)]; exact ⟨rfl, rfl⟩
  · rw [if_neg (show ¬ 5 * 1 + j = 5 * 1 + c by omega), if_neg g, if_neg (show ¬ 5 * 1 + j = 5 * 1 + c by omega)]; exact hL.1.2 j hj
theorem upP_ok {nt nc c : Nat} {pm : Nat → Int32 × Nat} {v : Int32 × Nat} (h : PsO nt nc pm) (hv : pOk nt v) : PsO nt nc (upP pm c v) := fun j hj => by
  unfold upP
  by_cases g : j = c
  · rw [if_pos g]; exact hv
  · rw [if_neg g]; exact h j hj
theorem upP_at {c : Nat} {pm : Nat → Int32 × Nat} {v : Int32 × Nat} : upP pm c v c = v := if_pos rfl
abbrev xeL (n0 : Nat) : Nat → Int32 → Int32 → Int32 → Int32 → Int32 → Mem → Option (Int32 × Mem) := loopN (bX11_evening_40 n0) (fun _ _ _ _ _ _ => none)
abbrev yeL (n0 : Nat) : Nat → Int32 → Int32 → Int32 → Int32 → Int32 → Mem → Option (Int32 × Mem) := loopN (bX12_evening_27 n0) (fun _ _ _ _ _ _ => none)
theorem evnL {n0 q b : Nat} {T : TP} {nr C m c : Nat} {pm : Nat → Int32 × Nat} {s : Nat × List (Nat × Nat)} {x2 : Int32} (hn : 1700 ≤ n0) (hc : c < T.nc) : ∀ w t (bX bY mo : Int32) (MX MY : Mem), t ≤ T.nt → T.nt < w + t → RR n0 q b T nr C m pm s MX MY → ((t = 0 ∧ mo = -1) ∨ (0 < t ∧ bX = bY ∧ ∃ k, k ≤ 60 ∧ mo = nI k)) → 0 < T.nt → ∃ r MX' MY', xeL n0 w (nI c) x2 bX mo (nI t) MX = some (r, MX') ∧ yeL n0 w (nI c) x2 bY mo (nI t) MY = some (r, MY') ∧ R n0 MX' MY'
  | 0, t, _, _, _, _, _, ht, hw, _, _, _ => by omega
  | w + 1, t, bX, bY, mo, MX, MY, ht, hw, h, hi, h0 => by
    show ∃ r MX' MY', bX11_evening_40 n0 (xeL n0 w) (nI c) x2 bX mo (nI t) MX = _ ∧ bX12_evening_27 n0 (yeL n0 w) (nI c) x2 bY mo (nI t) MY = _ ∧ _
    obtain ⟨h1, h2, h3, h4, _⟩ := id h
    obtain ⟨o1, o2, o3, _⟩ := h1.2.2.2.1.2.1
    have hb := h1.2.2.2.2.1.2.2.1
    have hm := h2.1
    have hl := h2.2.2.l
    have h13 := h1.2.2.2.2.1.2.2.2.1
    have xq : gI MX (128 * gR MX 1 + 1) = nI T.nt := by rw [h1.2.1]; exact h1.2.2.2.1.1.2.2.1
    have yq : gA MY 2 (gI MY 13).toNatClampNeg = nI T.nt := by rw [h13, nI_clamp (by omega)]; exact h1.2.2.2.2.1.2.2.2.2.1
    have o13 : ¬ oob (gI MY 13) 2 := by rw [h13]; exact nI_in (by omega) (by decide)
    unfold bX11_evening_40 bX12_evening_27
    by_cases g : t = T.nt
    · rcases hi with ⟨z, _⟩ | ⟨_, rfl, _⟩
      · omega
      · subst g
        by_cases z : x2 = 0
        · exact ⟨bX, MX, MY, eq_t (by rw [xq]; exact Int32.le_refl _) (eq_t z rfl), eq_f o13 (eq_t (by rw [yq]; exact Int32.le_refl _) (eq_t z rfl)), q, b, T, nr, C, m, pm, s, h⟩
        · exact ⟨mo, MX, MY, eq_t (by rw [xq]; exact Int32.le_refl _) (eq_f z rfl), eq_f o13 (eq_t (by rw [yq]; exact Int32.le_refl _) (eq_f z rfl)), q, b, T, nr, C, m, pm, s, h⟩
    · have tO : tOk T.nt (nI t) := Or.inr ⟨t, by omega, rfl⟩
      have vO : pOk T.nt (nI t, 0) := ⟨tO, Nat.zero_le _⟩
      have hf : ∀ j, j ≤ min 60 (9999 - m) → hrs T.hF T.gF c m (nI t, 0) j ≤ 23 := fun j hj => hrs_le h1.2.2.2.2.1 hc vO (by omega)
      obtain ⟨X1, a1, a2⟩ := xcs (n0 := n0) hn h1.2.2.2.1 h3 hc tO hm hf
      obtain ⟨Y1, b1, b2, b3⟩ := ycopyD (n0 := n0) (v := 1) (u := 0) hn (by decide) (by decide) (by decide) o2 (by omega) h4
      obtain ⟨Y2, c1, c2, c3⟩ := yput1 (n0 := n0) (t := nI t) b2 o2 hc
      have f2 := b3.tr c3
      have YT2 := h1.2.2.2.2.1.yf f2 lP28
      have PO := upP_ok (c := c) h2.2.1 vO
      obtain ⟨_, Y3, d1, d2⟩ := yhr YT2 (v := 1) (by decide) c2.1 PO (by omega) hc
      rw [upP_at] at d1
      have f3 : YF (lP 1) MY Y3 := f2.tr d2.y
      have L3 : LyD 1 T.nc (m + 0) (trP T m (upP pm c (nI t, 0)) 0) s Y3 := LyD.fr (P := fun _ _ => False) c2 d2.y o2 (by omega) (fun _ _ z => z.elim)
      obtain ⟨Y4, e1, e2⟩ := ysty (n0 := n0) (k27 := yeL n0 w) (x2 := x2) (x3 := bY) (x4 := mo) (x5 := nI t) hn hc PO h2.2.2 hm hf n0 0 Y3 (by omega) (by omega) (h1.2.2.2.2.1.yf f3 lP28) L3 (m28f h4.1.1 f3 n28)
      rw [Nat.sub_zero] at e1
      have sl := stay_le (hrs T.hF T.gF c m (nI t, 0)) (min 60 (9999 - m)) 0
      have RR2 := h.scr (a2.wk (fun a z => by unfold scA; omega)) (lsc (f3.tr e2))
      have t1 : nI t + 1 = nI (t + 1) := nI_add t 1
      have xst : ∀ r, (if nI (stay (hrs T.hF T.gF c m (nI t, 0)) 0 (min 60 (9999 - m))) ≤ mo then fX11_evening_75 n0 (xeL n0 w) (nI c) x2 bX mo (nI t) X1 else fX11_evening_75 n0 (xeL n0 w) (nI c) x2 (nI t) (nI (stay (hrs T.hF T.gF c m (nI t, 0)) 0 (min 60 (9999 - m)))) (nI t) X1) = r → bX11_evening_40 n0 (xeL n0 w) (nI c) x2 bX mo (nI t) MX = r := fun r hr => by
        unfold bX11_evening_40
        exact eq_f (by rw [xq]; exact nI_ge (by omega) (by omega)) (eq_b a1 hr)
      have yst : ∀ r, fX12_evening_132 n0 (yeL n0 w) (nI c) x2 bY mo (nI t) (nI (stay (hrs T.hF T.gF c m (nI t, 0)) 0 (min 60 (9999 - m)))) Y4 = r → bX12_evening_27 n0 (yeL n0 w) (nI c) x2 bY mo (nI t) MY = r := fun r hr => by
        unfold bX12_evening_27
        refine eq_f o13 (eq_f (by rw [yq]; exact nI_ge (by omega) (by omega)) (eq_b b1 (eq_b c1 (eq_b d1 (Eq.trans e1 hr)))))
      have fin : ∀ bX' bY' mo', (0 < t + 1 ∧ bX' = bY' ∧ ∃ k, k ≤ 60 ∧ mo' = nI k) → fX11_evening_75 n0 (xeL n0 w) (nI c) x2 bX' mo' (nI t) X1 = xeL n0 w (nI c) x2 bX' mo' (nI (t + 1)) X1 ∧ fX12_evening_149 n0 (yeL n0 w) (nI c) x2 bY' mo' (nI t) Y4 = yeL n0 w (nI c) x2 bY' mo' (nI (t + 1)) Y4 ∧ ∃ r MX' MY', xeL n0 w (nI c) x2 bX' mo' (nI (t + 1)) X1 = some (r, MX') ∧ yeL n0 w (nI c) x2 bY' mo' (nI (t + 1)) Y4 = some (r, MY') ∧ R n0 MX' MY' := fun bX' bY' mo' hi' => by
        refine ⟨by unfold fX11_evening_75; rw [t1], by unfold fX12_evening_149; rw [t1], ?_⟩
        exact evnL hn hc w (t + 1) bX' bY' mo' X1 Y4 (by omega) (by omega) RR2 (Or.inr hi') h0
      by_cases u : mo < nI (stay (hrs T.hF T.gF c m (nI t, 0)) 0 (min 60 (9999 - m)))
      · obtain ⟨p1, p2, r, MX', MY', p3, p4, p5⟩ := fin (nI t) (nI t) (nI (stay (hrs T.hF T.gF c m (nI t, 0)) 0 (min 60 (9999 - m)))) ⟨by omega, rfl, _, by omega, rfl⟩
        refine ⟨r, MX', MY', xst _ (eq_f (Int32.not_le.mpr u) (p1.trans p3)), yst _ ?_, p5⟩
        unfold fX12_evening_132
        exact eq_t u (p2.trans p4)
      · rcases hi with ⟨_, z⟩ | hi
        · exact absurd (by rw [z, i_lt, nI_toInt (by omega), show (-1 : Int32).toInt = -1 from rfl]; omega) u
        · obtain ⟨p1, p2, r, MX', MY', p3, p4, p5⟩ := fin bX bY mo ⟨by omega, hi.2⟩
          refine ⟨r, MX', MY', xst _ (eq_t (Int32.not_lt.mp u) (p1.trans p3)), yst _ ?_, p5⟩
          unfold fX12_evening_132
          exact eq_f u (p2.trans p4)
theorem cEvening {n0 : Nat} {x y : Int32} {MX MY : Mem} (hn : 1700 ≤ n0) (h : R n0 MX MY) : Cal n0 (fX11_evening n0 x y MX) (fX12_evening n0 x y MY) := by
  have h0 := h
  obtain ⟨q, b, T, nr, C, m, pm, s, h⟩ := h
  obtain ⟨h1, h2, h3, h4, _⟩ := id h
  obtain ⟨o1, o2, o3, _⟩ := h1.2.2.2.1.2.1
  have xq : gI MX (128 * gR MX 1 + 1) = nI T.nt := by rw [h1.2.1]; exact h1.2.2.2.1.1.2.2.1
  unfold fX11_evening fX12_evening
  rcases isCo h1 x with ⟨c, hc, rfl, e1, e2⟩ | ⟨z, e1, e2⟩
  · rcases yisc (n0 := n0) 2 (x := y) (hi := 1) (by decide) (by decide) with ⟨k, hk, rfl, e⟩ | ⟨z, e⟩
    · by_cases g : T.nt = 0
      · refine Cal.same (r := -1) h0 (eq_b e1 (eq_f (show ¬ (1 : Int32) = 0 by decide) (eq_t (show gI MX (128 * gR MX 1 + 1) = 0 by rw [xq, g]; rfl) rfl))) (eq_b e2 (eq_f (show ¬ (1 : Int32) = 0 by decide) (eq_b (e MY) (eq_f (show ¬ (1 : Int32) = 0 by decide) ?_))))
        have hb := h1.2.2.2.2.1.2.2.1
        have h13 := h1.2.2.2.2.1.2.2.2.1
        have yq : gA MY 2 (gI MY 13).toNatClampNeg = nI T.nt := by rw [h13, nI_clamp (by omega)]; exact h1.2.2.2.2.1.2.2.2.2.1
        have o13 : ¬ oob (gI MY 13) 2 := by rw [h13]; exact nI_in (by omega) (by decide)
        obtain ⟨w, rfl⟩ : ∃ w, n0 = w + 1 := ⟨n0 - 1, by omega⟩
        show bX12_evening_27 (w + 1) (yeL (w + 1) w) (nI c) (nI k) (-1) (-1) 0 MY = _
        unfold bX12_evening_27
        refine eq_f o13 (eq_t (by rw [yq, g]; decide) ?_)
        by_cases z : nI k = 0
        · exact eq_t z rfl
        · exact eq_f z rfl
      · obtain ⟨r, MX', MY', p3, p4, p5⟩ := evnL (n0 := n0) (x2 := nI k) hn hc n0 0 0 (-1) (-1) MX MY (by omega) (by omega) h (Or.inl ⟨rfl, rfl⟩) (by omega)
        exact ⟨r, MX', MY', eq_b e1 (eq_f (show ¬ (1 : Int32) = 0 by decide) (eq_f (show ¬ gI MX (128 * gR MX 1 + 1) = 0 by rw [xq]; exact nI_ne0 (by omega) (by omega)) (eq_f (nI_nn (by omega)) (eq_t (nI_le (b := 1) (by omega) (by decide)) p3)))), eq_b e2 (eq_f (show ¬ (1 : Int32) = 0 by decide) (eq_b (e MY) (eq_f (show ¬ (1 : Int32) = 0 by decide) p4))), p5⟩
    · refine Cal.same (r := -1) h0 (eq_b e1 (eq_f (show ¬ (1 : Int32) = 0 by decide) ?_)) (eq_b e2 (eq_f (show ¬ (1 : Int32) = 0 by decide) (eq_b (e MY) (eq_t rfl rfl))))
      by_cases g : gI MX (128 * gR MX 1 + 1) = 0
      · exact eq_t g rfl
      · by_cases g2 : y < 0
        · exact eq_f g (eq_t g2 rfl)
        · refine eq_f g (eq_f g2 (eq_f (fun u => ?_) rfl))
          have z2 := z.resolve_left g2
          rw [i_le] at z2 u
          have a1 : (nI 2).toInt = 2 := rfl
          have a2 : (1 : Int32).toInt = 1 := rfl
          omega
  · exact Cal.same (r := -1) h0 (eq_b e1 (eq_t rfl rfl)) (eq_b e2 (eq_t rfl rfl))
end
section
/-! WHAT WAS HELD: the class -/
theorem b7_has : ∀ D, D < 128 → ∀ d, d < 7 → ((((nI D) >>> ((nI d) &&& 31)) &&& (1 : Int32) = 1) ↔ D / 2 ^ d % 2 = 1) := by decide +kernel
theorem b7_or : ∀ d, d < 7 → ∀ D, D < 128 → D < 2 ^ d → (nI D) ||| ((1 : Int32) <<< ((nI d) &&& 31)) = nI (D + 2 ^ d) := by decide +kernel
theorem b7_2 : ∀ d, d < 7 → ∀ D, D < 128 → D < 2 ^ d → ∀ v, v < 2 → D + v * 2 ^ d < 2 ^ (d + 1) := by decide +kernel
theorem b7_3 : ∀ d, d < 7 → ∀ D, D < 128 → D < 2 ^ d → ∀ v, v < 2 → (D + v * 2 ^ d) / 2 ^ d % 2 = v := by decide +kernel
theorem b7_4 : ∀ d, d < 7 → ∀ D, D < 128 → ∀ v, v < 2 → ∀ e, e < d → (D + v * 2 ^ d) / 2 ^ e % 2 = D / 2 ^ e % 2 := by decide +kernel
theorem p128 {n : Nat} (h : n ≤ 7) : 2 ^ n ≤ 128 := Nat.pow_le_pow_right (n := 2) (by decide) h
theorem Dn7 {f : Nat → Nat} (hf : ∀ d, f d ≤ 1) : ∀ d, d ≤ 7 → Dn f d < 2 ^ d ∧ ∀ e, e < d → Dn f d / 2 ^ e % 2 = f e
  | 0, _ => ⟨Nat.zero_lt_one, fun e he => by omega⟩
  | d + 1, hd => by
    obtain ⟨a1, a2⟩ := Dn7 hf d (by omega)
    have p := p128 (n := d) (by omega)
    have h1 := hf d
    refine ⟨b7_2 d (by omega) (Dn f d) (by omega) a1 (f d) (by omega), fun e he => ?_⟩
    by_cases z : e = d
    · rw [z]; exact b7_3 d (by omega) (Dn f d) (by omega) a1 (f d) (by omega)
    · exact (b7_4 d (by omega) (Dn f d) (by omega) (f d) (by omega) e (by omega)).trans (a2 e (by omega))
theorem Dn_congr {f g : Nat → Nat} : ∀ d, (∀ e, e < d → f e = g e) → Dn f d = Dn g d
  | 0, _ => rfl
  | d + 1, h => by
    show Dn f d + f d * 2 ^ d = Dn g d + g d * 2 ^ d
    rw [Dn_congr d (fun e he => h e (by omega)), h d (by omega)]
theorem Dn_zero {f : Nat → Nat} : ∀ d, (∀ e, e < d → f e = 0) → Dn f d = 0
  | 0, _ => rfl
  | d + 1, h => by
    show Dn f d + f d * 2 ^ d = 0
    rw [Dn_zero d (fun e he => h e (by omega)), h d (by omega), Nat.zero_mul]
/-- the thing of a choice: none, then things by numbers -/
def thI (u : Nat) : Int32 := if u = 0 then -1 else nI (u - 1)
theorem thI_1 (u : Nat) : thI u + 1 = nI u := by
  unfold thI
  by_cases g : u = 0
  · rw [if_pos g, g]; decide
  · rw [if_neg g, show nI (u - 1) + 1 = nI (u - 1 + 1) from nI_add _ 1, show u - 1 + 1 = u by omega]
theorem thI_s (u : Nat) : nI u = thI (u + 1) := by
  unfold thI
  rw [if_neg (by omega), Nat.add_sub_cancel]
theorem thI_ok {nt u : Nat} (h : u ≤ nt) : tOk nt (thI u) := by
  unfold thI
  by_cases g : u = 0
  · rw [if_pos g]; exact Or.inl rfl
  · rw [if_neg g]; exact Or.inr ⟨u - 1, by omega, rfl⟩
theorem thI_lt {nt u : Nat} (h : u ≤ nt) (hn : nt ≤ 6) : ¬ nI nt ≤ thI u := by
  unfold thI
  by_cases g : u = 0
  · rw [if_pos g, i_le, nI_toInt (by omega), show (-1 : Int32).toInt = -1 from rfl]
    omega
  · rw [if_neg g]
    exact nI_ge (by omega) (by omega)
def b01 (p : Bool) : Nat := if p = true then 1 else 0
theorem b01_le (p : Bool) : b01 p ≤ 1 := by cases p <;> decide
/-- rows seen that tell of a corner are so, by these hours up to the last minute -/
def soB (n : Nat) (ra rc rh : Nat → Nat) (o last : Nat) (f : Nat → Nat) : Bool := (List.range n).all (fun i => decide (rc i = o → ra i ≤ last ∧ f (ra i) = rh i))
theorem soB_iff {n : Nat} {ra rc rh : Nat → Nat} {o last : Nat} {f : Nat → Nat} : soB n ra rc rh o last f = true ↔ ∀ i, i < n → rc i = o → ra i ≤ last ∧ f (ra i) = rh i := by
  unfold soB
  rw [List.all_eq_true]
  constructor
  · intro h i hi
    exact of_decide_eq_true (h i (List.mem_range.mpr hi))
  · intro h i hi
    exact decide_eq_true (h i (List.mem_range.mp hi))
def XRw (n nc : Nat) (ra rc rh : Nat → Nat) (M : Mem) : Prop := n ≤ 16 ∧ gI M 2688 = nI n ∧ ∀ k, k < n → ra k ≤ 40 ∧ rc k < nc ∧ rh k ≤ 23 ∧ gA M 22 k = nI (ra k) ∧ gA M 23 k = nI (rc k) ∧ gA M 24 k = nI (rh k)
def YRw (n nc : Nat) (ra rc rh : Nat → Nat) (M : Mem) : Prop := n ≤ 16 ∧ gI M 61 = nI n ∧ ∀ k, k < n → ra k ≤ 40 ∧ rc k < nc ∧ rh k ≤ 23 ∧ gA M 39 k = nI (ra k) ∧ gA M 40 k = nI (rc k) ∧ gA M 41 k = nI (rh k)
theorem XRw.fr {n nc : Nat} {ra rc rh : Nat → Nat} {A : Nat → Prop} {M M' : Mem} (h : XRw n nc ra rc rh M) (f : XF A M M') (hA : ∀ a, A a → ¬ (22 ≤ a ∧ a ≤ 24)) : XRw n nc ra rc rh M' := ⟨h.1, (f.2.2.2.2 2688 (by decide)).trans h.2.1, fun k hk => by
  rw [f.gA (a := 22) (fun z => hA 22 z (by decide)) (by decide), f.gA (a := 23) (fun z => hA 23 z (by decide)) (by decide), f.gA (a := 24) (fun z => hA 24 z (by decide)) (by decide)]
  exact h.2.2 k hk⟩
theorem RN.rows {nc : Nat} {MX MY : Mem} (h : RN nc MX MY) (h5 : nc ≤ 5) : ∃ n ra rc rh, XRw n nc ra rc rh MX ∧ YRw n nc ra rc rh MY := by
  obtain ⟨n, n1, n2, n3, n4⟩ := h
  refine ⟨n, fun k => (gA MX 22 k).toNatClampNeg, fun k => (gA MX 23 k).toNatClampNeg, fun k => (gA MX 24 k).toNatClampNeg, ⟨n1, n2, fun k hk => ?_⟩, ⟨n1, n3, fun k hk => ?_⟩⟩
  · obtain ⟨a, c, h, a1, a2, a3, a4, a5, a6, a7, a8, a9⟩ := n4 k hk
    dsimp only
    rw [a4, a6, a8, nI_clamp (by omega), nI_clamp (by omega), nI_clamp (by omega)]
    exact ⟨a1, a2, a3, rfl, rfl, rfl⟩
  · obtain ⟨a, c, h, a1, a2, a3, a4, a5, a6, a7, a8, a9⟩ := n4 k hk
    dsimp only
    rw [a4, a6, a8, a5, a7, a9, nI_clamp (by omega), nI_clamp (by omega), nI_clamp (by omega)]
    exact ⟨a1, a2, a3, rfl, rfl, rfl⟩
abbrev xabL (n0 : Nat) : Nat → Int32 → Int32 → Mem → Option (Int32 × Mem) := loopN (bX5_isAbout_2 n0) (fun _ _ _ => none)
theorem xabout {n0 n nc o : Nat} {ra rc rh : Nat → Nat} {M : Mem} (hR : XRw n nc ra rc rh M) (h5 : nc ≤ 5) (ho : o < 5) : ∀ w i, i ≤ n → n < w + i → (∀ j, j < i → ¬ rc j = o) → (xabL n0 w (nI o) (nI i) M = some (1, M)) ∨ (xabL n0 w (nI o) (nI i) M = some (0, M) ∧ ∀ j, j < n → ¬ rc j = o)
  | 0, i, hi, hw, _ => by omega
  | w + 1, i, hi, hw, hj => by
    show (bX5_isAbout_2 n0 (xabL n0 w) (nI o) (nI i) M = _) ∨ (bX5_isAbout_2 n0 (xabL n0 w) (nI o) (nI i) M = _ ∧ _)
    have h16 := hR.1
    unfold bX5_isAbout_2
    by_cases g : i = n
    · exact Or.inr ⟨eq_t (by rw [hR.2.1, g]; exact Int32.le_refl _) rfl, fun j hjn => hj j (by omega)⟩
    · have ci : (nI i).toNatClampNeg = i := nI_clamp (by omega)
      obtain ⟨r1, r2, r3, r4, r5, r6⟩ := hR.2.2 i (by omega)
      have st : ¬ gI M 2688 ≤ nI i := by rw [hR.2.1]; exact nI_ge (by omega) (by omega)
      have oi : ¬ oob (nI i) 16 := nI_in (by omega) (by decide)
      by_cases z : rc i = o
      · exact Or.inl (eq_f st (eq_f oi (eq_t (by rw [ci, r5, z]) rfl)))
      · have k1 : nI i + 1 = nI (i + 1) := nI_add i 1
        rcases xabout hR h5 ho w (i + 1) (by omega) (by omega) (fun j hj2 => by
          by_cases y : j = i
          · rw [y]; exact z
          · exact hj j (by omega)) with r | ⟨r, s⟩
        · exact Or.inl (eq_f st (eq_f oi (eq_f (by rw [ci, r5]; exact fun y => z ((nI_eq (by omega) (by omega)).mp y)) (by rw [k1]; exact r))))
        · exact Or.inr ⟨eq_f st (eq_f oi (eq_f (by rw [ci, r5]; exact fun y => z ((nI_eq (by omega) (by omega)).mp y)) (by rw [k1]; exact r))), s⟩
abbrev xsoL (n0 : Nat) : Nat → Int32 → Int32 → Int32 → Mem → Option (Int32 × Mem) := loopN (bX5_isSo_3 n0 26) (fun _ _ _ _ => none)
theorem xso {n0 n nc o last : Nat} {ra rc rh : Nat → Nat} {f : Nat → Nat} {M : Mem} (hR : XRw n nc ra rc rh M) (h5 : nc ≤ 5) (ho : o < 5) (hl : last ≤ 40) (hf : ∀ j, j ≤ last → gA M 26 j = nI (f j) ∧ f j ≤ 23) : ∀ w i, i ≤ n → n < w + i → (∀ j, j < i → rc j = o → ra j ≤ last ∧ f (ra j) = rh j) → xsoL n0 w (nI o) (nI last) (nI i) M = some (bI (soB n ra rc rh o last f = true), M)
  | 0, i, hi, hw, _ => by omega
  | w + 1, i, hi, hw, hj => by
    show bX5_isSo_3 n0 26 (xsoL n0 w) (nI o) (nI last) (nI i) M = _
    have h16 := hR.1
    have ln26 : LX.ln 26 = 61 := rfl
    unfold bX5_isSo_3
    by_cases g : i = n
    · rw [bI_t (soB_iff.mpr (fun j hjn => hj j (by omega)))]
      exact eq_t (by rw [hR.2.1, g]; exact Int32.le_refl _) rfl
    · have ci : (nI i).toNatClampNeg = i := nI_clamp (by omega)
      obtain ⟨r1, r2, r3, r4, r5, r6⟩ := hR.2.2 i (by omega)
      have st : ¬ gI M 2688 ≤ nI i := by rw [hR.2.1]; exact nI_ge (by omega) (by omega)
      have oi : ¬ oob (nI i) 16 := nI_in (by omega) (by decide)
      have k1 : nI i + 1 = nI (i + 1) := nI_add i 1
      have a22 : gA M 22 (nI i).toNatClampNeg = nI (ra i) := by rw [ci, r4]
      have a23 : gA M 23 (nI i).toNatClampNeg = nI (rc i) := by rw [ci, r5]
      have a24 : gA M 24 (nI i).toNatClampNeg = nI (rh i) := by rw [ci, r6]
      have bad : ¬ (rc i = o → ra i ≤ last ∧ f (ra i) = rh i) → bI (soB n ra rc rh o last f = true) = 0 := fun z => bI_f (fun y => z (soB_iff.mp y i (by omega)))
      have nxt : (rc i = o → ra i ≤ last ∧ f (ra i) = rh i) → fX5_isSo_79 n0 26 (xsoL n0 w) (nI o) (nI last) (nI i) M = some (bI (soB n ra rc rh o last f = true), M) := fun z => by
        unfold fX5_isSo_79
        rw [k1]
        exact xso hR h5 ho hl hf w (i + 1) (by omega) (by omega) (fun j hj2 => by
          by_cases y : j = i
          · rw [y]; exact z
          · exact hj j (by omega))
      by_cases z : rc i = o
      · refine eq_f st (eq_f oi (eq_t (by rw [a23, z]) (eq_f oi ?_)))
        by_cases y : ra i ≤ last
        · have e1 : ¬ nI last < gA M 22 (nI i).toNatClampNeg := by rw [a22]; exact fun u => by have := (nI_ltI (by omega) (by omega)).mp u; omega
          have e2 : ¬ Int32.ofNat (LX.ln 26) ≤ gA M 22 (nI i).toNatClampNeg := by rw [a22, ln26]; exact nI_ge (b := 61) (by omega) (by decide)
          have e3 : gA M 26 (gA M 22 (nI i).toNatClampNeg).toNatClampNeg = nI (f (ra i)) := by rw [a22, nI_clamp (by omega)]; exact (hf _ y).1
          have e4 := (hf _ y).2
          refine eq_f e1 (eq_f oi (eq_f e2 ?_))
          unfold fX5_isSo_51
          refine eq_f (by decide) (eq_f oi (eq_f (by rw [a22, ln26]; exact nI_in (by omega) (by decide)) (eq_f oi ?_)))
          by_cases x : f (ra i) = rh i
          · exact eq_t (by rw [e3, a24, x]) (nxt (fun _ => ⟨y, x⟩))
          · rw [bad (fun u => x (u z).2)]
            exact eq_f (by rw [e3, a24]; exact fun u => x ((nI_eq (by omega) (by omega)).mp u)) rfl
        · rw [bad (fun u => y (u z).1)]
          refine eq_t (by rw [a22]; exact nI_lt (by omega) (by omega)) ?_
          unfold fX5_isSo_50 fX5_isSo_51
          exact eq_t rfl rfl
      · exact eq_f st (eq_f oi (eq_f (by rw [a23]; exact fun y => z ((nI_eq (by omega) (by omega)).mp y)) (nxt (fun u => absurd u z))))
theorem ln83 : ∀ j, j < 7 → LX.ln (83 + j) = 41 := by decide +kernel
abbrev xnL (n0 : Nat) : Nat → Int32 → Int32 → Int32 → Mem → Option Mem := loopN (bX5_noteHours_14 n0 26) (fun _ _ _ _ => none)
theorem xnote {n0 u last : Nat} (hu : u < 7) (hl : last ≤ 40) : ∀ w k M, k ≤ last + 1 → last + 1 < w + k → ∃ M', xnL n0 w (nI u) (nI last) (nI k) M = some M' ∧ (∀ j, k ≤ j → j ≤ last → gA M' (83 + u) j = gA M 26 j) ∧ gR M' = gR M ∧ gL M' = gL M ∧ gB M' = gB M ∧ gI M' = gI M ∧ ∀ a i, ¬ (a = 83 + u ∧ k ≤ i) → gA M' a i = gA M a i
  | 0, k, M, hk, hw => by omega
  | w + 1, k, M, hk, hw => by
    show ∃ M', bX5_noteHours_14 n0 26 (xnL n0 w) (nI u) (nI last) (nI k) M = _ ∧ _
    have ln26 : LX.ln 26 = 61 := rfl
    unfold bX5_noteHours_14
    by_cases g : k = last + 1
    · exact ⟨M, eq_t (nI_lt (by omega) (by omega)) rfl, fun j h1 h2 => by omega, rfl, rfl, rfl, rfl, fun _ _ _ => rfl⟩
    · have ck : (nI k).toNatClampNeg = k := nI_clamp (by omega)
      have cu : (nI u).toNatClampNeg = u := nI_clamp (by omega)
      obtain ⟨M', r1, r2, r3, r4, r5, r6, r7⟩ := xnote (n0 := n0) hu hl w (k + 1) (sA M (83 + u) k (gA M 26 k)) (by omega) (by omega)
      refine ⟨M', eq_f (fun z => by have := (nI_ltI (by omega) (by omega)).mp z; omega) (eq_f (fun z => by have := (nI_ltI (a := 40) (by decide) (by omega)).mp z; omega) (eq_f (by rw [ln26]; exact nI_ge (b := 61) (by omega) (by decide)) (eq_f (nI_in hu (by decide)) (eq_f (by rw [ln26]; exact nI_in (by omega) (by decide)) (eq_f (by rw [cu, ln83 u hu]; exact nI_in (by omega) (by decide)) (eq_e (v' := sA M (83 + u) k (gA M 26 k)) (by rw [cu, ck]) ?_)))))), fun j h1 h2 => ?_, r3, r4, r5, r6, fun a i z => ?_⟩
      · rw [show nI k + 1 = nI (k + 1) from nI_add k 1]
        exact r1
      · by_cases h : j = k
        · rw [h, r7 (83 + u) k (by omega), gA_sA, if_pos rfl, if_pos rfl]
        · rw [r2 j (by omega) h2, gA_sA_ne (by omega)]
      · rw [r7 a i (by omega), gA_sA]
        by_cases h : a = 83 + u
        · rw [if_pos h, if_neg (by omega), h]
        · rw [if_neg h]
def hA (a : Nat) : Prop := a = 26 ∨ (83 ≤ a ∧ a < 90)
theorem hA31 : ∀ a, hA a → a < 31 ∨ 63 ≤ a := fun a z => by unfold hA at z; omega
theorem hAst : ∀ a, hA a → ¬ stA a := fun a z y => by unfold hA at z; unfold stA at y; omega
theorem hA22 : ∀ a, hA a → ¬ (22 ≤ a ∧ a ≤ 24) := fun a z => by unfold hA at z; omega
theorem hAsc {M M' : Mem} (f : XF hA M M') : XF scA M M' := f.wk (fun a z => by unfold hA at z; unfold scA; omega)
/-- the hours of a corner with the thing of each choice -/
def hby (T : TP) (c m u : Nat) : Nat → Nat := hrs T.hF T.gF c m (thI u, 0)
abbrev xhdL (n0 : Nat) : Nat → Int32 → Int32 → Int32 → Mem → Option (Int32 × Mem) := loopN (bX11_findHeld_69 n0) (fun _ _ _ _ => none)
theorem xhd69 {n0 q c m n : Nat} {T : TP} {pm : Nat → Int32 × Nat} {s : Nat × List (Nat × Nat)} {ra rc rh : Nat → Nat} (hn : 1700 ≤ n0) (hc : c < T.nc) (hm : m ≤ 9999) (h23 : ∀ u j, u ≤ T.nt → j ≤ min 40 (9999 - m) → hby T c m u j ≤ 23) :
    ∀ w u M, u ≤ T.nt + 1 → T.nt + 1 < w + u → XT n0 q T M → SX q T.nc T.nd m pm s M → gR M 1 = q → XRw n T.nc ra rc rh M → (∀ v j, v < u → j ≤ min 40 (9999 - m) → gA M (83 + v) j = nI (hby T c m v j)) →
    ∃ M', xhdL n0 w (nI c) (nI (Dn (fun v => b01 (soB n ra rc rh c (min 40 (9999 - m)) (hby T c m v))) u)) (thI u) M = some (nI (Dn (fun v => b01 (soB n ra rc rh c (min 40 (9999 - m)) (hby T c m v))) (T.nt + 1)), M') ∧ (∀ v j, v ≤ T.nt → j ≤ min 40 (9999 - m) → gA M' (83 + v) j = nI (hby T c m v j)) ∧ XF hA M M'
  | 0, u, M, hu, hw, _, _, _, _, _ => by omega
  | w + 1, u, M, hu, hw, hT, hS, hq, hR, hB => by
    show ∃ M', bX11_findHeld_69 n0 (xhdL n0 w) (nI c) _ (thI u) M = _ ∧ _
    obtain ⟨o1, o2, o3, _⟩ := hT.2.1
    have q1 : gI M (128 * gR M 1 + 1) = nI T.nt := by rw [hq]; exact hT.1.2.2.1
    unfold bX11_findHeld_69
    by_cases g : u = T.nt + 1
    · subst g
      exact ⟨M, eq_t (by rw [q1, ← thI_s]; exact Int32.le_refl _) rfl, fun v j hv hj => hB v j (by omega) hj, XF.r⟩
    · have tO : tOk T.nt (thI u) := thI_ok (by omega)
      have f1 : XF hA M (hld M (nI c) (thI u) (nI 0) (nI m)) := hld_f
      obtain ⟨M2, e1, e2, e3⟩ := xfor (n0 := n0) (q1 := 26) (most := 40) hn (hT.1.xf f1 hA31) (hld_p (h := 0) hS.1) (by omega) ⟨tO, Nat.zero_le _⟩ hm (by decide) (Or.inl rfl)
      have f2 : XF hA M M2 := f1.tr (e3.wk (fun a z => Or.inl z))
      obtain ⟨M3, d1, d2, d3, d4, d5, d6, d7⟩ := xnote (n0 := n0) (u := u) (last := min 40 (9999 - m)) (by omega) (by omega) n0 0 M2 (by omega) (by omega)
      have f3 : XF hA M2 M3 := ⟨d3, d4, d5, fun a z => by funext i; exact d7 a i (fun y => z (Or.inr (Or.inr (by unfold hA; omega)))), fun k _ => by rw [d6]⟩
      have f4 := f2.tr f3
      have R3 := hR.fr f4 hA22
      have a26 : gA M3 26 = gA M2 26 := by funext i; exact d7 26 i (by omega)
      have sv := xso (n0 := n0) (f := hby T c m u) R3 o2 (by omega : c < 5) (show min 40 (9999 - m) ≤ 40 by omega) (fun j hj => ⟨by rw [a26]; exact e2 j hj, h23 u j (by omega) hj⟩) n0 0 (by omega) (by have := R3.1; omega) (fun j hj => by omega)
      have b83 : ∀ v j, v < u + 1 → j ≤ min 40 (9999 - m) → gA M3 (83 + v) j = nI (hby T c m v j) := fun v j hv hj => by
        by_cases z : v = u
        · rw [z, d2 j (by omega) hj]
          exact e2 j hj
        · rw [d7 (83 + v) j (by omega), e3.gA (a := 83 + v) (by omega) (by omega)]
          exact hB v j (by omega) hj
      have D7 := Dn7 (f := fun v => b01 (soB n ra rc rh c (min 40 (9999 - m)) (hby T c m v))) (fun d => b01_le _) u (by omega)
      have P7 := p128 (n := u) (by omega)
      obtain ⟨M', r1, r2, r3⟩ := xhd69 (ra := ra) (rc := rc) (rh := rh) (n := n) hn hc hm h23 w (u + 1) M3 (by omega) (by omega) (hT.xf f4 hA31) (hS.fr f4 hAst) (by rw [f4.1]; exact hq) R3 b83
      refine ⟨M', ?_, r2, f4.tr r3⟩
      have tu : thI u + 1 = nI u := thI_1 u
      refine eq_f (by rw [q1]; exact thI_lt (by omega) o1) (eq_b (z := hld M (nI c) (thI u) (nI 0) (nI m)) (by rw [hS.2.2.1]; exact xhold) (eq_b e1 (eq_b (z := M3) ?_ (eq_b sv ?_))))
      · unfold fX5_noteHours
        rw [tu]
        exact eq_f (nI_nn (by omega)) (eq_t (nI_lt (b := 7) (by omega) (by decide)) d1)
      · have step : Dn (fun v => b01 (soB n ra rc rh c (min 40 (9999 - m)) (hby T c m v))) (u + 1) = Dn (fun v => b01 (soB n ra rc rh c (min 40 (9999 - m)) (hby T c m v))) u + b01 (soB n ra rc rh c (min 40 (9999 - m)) (hby T c m u)) * 2 ^ u := rfl
        by_cases z : soB n ra rc rh c (min 40 (9999 - m)) (hby T c m u) = true
        · refine eq_f (show ¬ bI (soB n ra rc rh c (min 40 (9999 - m)) (hby T c m u) = true) = 0 by rw [bI_t z]; decide) (eq_e (v' := nI (Dn (fun v => b01 (soB n ra rc rh c (min 40 (9999 - m)) (hby T c m v))) (u + 1))) ?_ ?_)
          · rw [tu, b7_or u (by omega) _ (by omega) D7.1, step, z]
            congr 2
            show 2 ^ u = 1 * 2 ^ u
            omega
          · unfold fX11_findHeld_153
            rw [tu, thI_s]
            exact r1
        · refine eq_t (show bI (soB n ra rc rh c (min 40 (9999 - m)) (hby T c m u) = true) = 0 from bI_f z) ?_
          unfold fX11_findHeld_153
          rw [tu, thI_s]
          have e0 : b01 (soB n ra rc rh c (min 40 (9999 - m)) (hby T c m u)) = 0 := if_neg z
          rw [step, e0, Nat.zero_mul, Nat.add_zero] at r1
          exact r1
abbrev xh2L (n0 : Nat) : Nat → Int32 → Int32 → Mem → Option (Int32 × Mem) := loopN (bX11_findHeld_2 n0) (fun _ _ _ => none)
theorem xhd2 {n0 q b c m n : Nat} {T : TP} {pm : Nat → Int32 × Nat} {s : Nat × List (Nat × Nat)} {ra rc rh : Nat → Nat} {MY : Mem} (hn : 1700 ≤ n0) (hY : YT n0 b T MY) (hc : c < T.nc) (hm : m ≤ 9999) (hO : PsO T.nt T.nc pm) :
    ∀ w o M, o ≤ T.nc → T.nc < w + o → XT n0 q T M → SX q T.nc T.nd m pm s M → gR M 1 = q → XRw n T.nc ra rc rh M → (∀ j, j < o → ¬ j = c → soB n ra rc rh j (min 40 (9999 - m)) (hrs T.hF T.gF j m (pm j)) = true) →
    ∃ M', XF hA M M' ∧ ((xh2L n0 w (nI c) (nI o) M = fX11_findHeld_69 n0 (nI c) 0 (-1) M' ∧ ∀ j, j < T.nc → ¬ j = c → soB n ra rc rh j (min 40 (9999 - m)) (hrs T.hF T.gF j m (pm j)) = true) ∨ (xh2L n0 w (nI c) (nI o) M = some (0, M') ∧ ∃ j, j < T.nc ∧ ¬ j = c ∧ ¬ soB n ra rc rh j (min 40 (9999 - m)) (hrs T.hF T.gF j m (pm j)) = true))
  | 0, o, M, ho, hw, _, _, _, _, _ => by omega
  | w + 1, o, M, ho, hw, hT, hS, hq, hR, hj => by
    show ∃ M', XF hA M M' ∧ ((bX11_findHeld_2 n0 (xh2L n0 w) (nI c) (nI o) M = _ ∧ _) ∨ (bX11_findHeld_2 n0 (xh2L n0 w) (nI c) (nI o) M = _ ∧ _))
    obtain ⟨o1, o2, o3, _⟩ := hT.2.1
    have q5 : gI M (128 * gR M 1 + 5) = nI T.nc := by rw [hq]; exact hT.2.2.1
    have k1 : nI o + 1 = nI (o + 1) := nI_add o 1
    unfold bX11_findHeld_2
    by_cases g : o = T.nc
    · exact ⟨M, XF.r, Or.inl ⟨eq_t (by rw [q5, g]; exact Int32.le_refl _) rfl, fun j hjn => hj j (by omega)⟩⟩
    · have st : ¬ gI M (128 * gR M 1 + 5) ≤ nI o := by rw [q5]; exact nI_ge (by omega) (by omega)
      have nxt : ∀ M2, XF hA M M2 → (¬ o = c → soB n ra rc rh o (min 40 (9999 - m)) (hrs T.hF T.gF o m (pm o)) = true) → ∃ M', XF hA M M' ∧ ((fX11_findHeld_59 n0 (xh2L n0 w) (nI c) (nI o) M2 = fX11_findHeld_69 n0 (nI c) 0 (-1) M' ∧ ∀ j, j < T.nc → ¬ j = c → soB n ra rc rh j (min 40 (9999 - m)) (hrs T.hF T.gF j m (pm j)) = true) ∨ (fX11_findHeld_59 n0 (xh2L n0 w) (nI c) (nI o) M2 = some (0, M') ∧ ∃ j, j < T.nc ∧ ¬ j = c ∧ ¬ soB n ra rc rh j (min 40 (9999 - m)) (hrs T.hF T.gF j m (pm j)) = true)) := fun M2 f2 z => by
        obtain ⟨M', r1, r2⟩ := xhd2 hn hY hc hm hO w (o + 1) M2 (by omega) (by omega) (hT.xf f2 hA31) (hS.fr f2 hAst) (by rw [f2.1]; exact hq) (hR.fr f2 hA22) (fun j hj2 hne => by
          by_cases y : j = o
          · rw [y]; exact z (by rw [← y]; exact hne)
          · exact hj j (by omega) hne)
        refine ⟨M', f2.tr r1, ?_⟩
        unfold fX11_findHeld_59
        rw [k1]
        exact r2
      by_cases z : o = c
      · obtain ⟨M', r1, r2⟩ := nxt M XF.r (fun y => absurd z y)
        refine ⟨M', r1, ?_⟩
        rcases r2 with ⟨s1, s2⟩ | ⟨s1, s2⟩
        · exact Or.inl ⟨eq_f st (eq_t (by rw [z]) s1), s2⟩
        · exact Or.inr ⟨eq_f st (eq_t (by rw [z]) s1), s2⟩
      · have hne : ¬ nI o = nI c := fun y => z ((nI_eq (by omega) (by omega)).mp y)
        rcases xabout (n0 := n0) hR o2 (show o < 5 by omega) n0 0 (by omega) (by have := hR.1; omega) (fun j hj => by omega) with e | ⟨e, e'⟩
        · obtain ⟨M2, a1, a2, a3⟩ := xfc (n0 := n0) (q1 := 26) (most := 40) hn hT hS hO (show o < T.nc by omega) hm (by decide) (Or.inl rfl)
          have f2 : XF hA M M2 := a3.wk (fun a y => Or.inl y)
          have sv := xso (n0 := n0) (f := hrs T.hF T.gF o m (pm o)) (hR.fr f2 hA22) o2 (show o < 5 by omega) (show min 40 (9999 - m) ≤ 40 by omega) (fun j hj => ⟨a2 j hj, hrs_le hY (by omega) (hO o (by omega)) (by omega)⟩) n0 0 (by omega) (by have := hR.1; omega) (fun j hj => by omega)
          by_cases y : soB n ra rc rh o (min 40 (9999 - m)) (hrs T.hF T.gF o m (pm o)) = true
          · obtain ⟨M', r1, r2⟩ := nxt M2 f2 (fun _ => y)
            refine ⟨M', r1, ?_⟩
            have yy : ¬ bI (soB n ra rc rh o (min 40 (9999 - m)) (hrs T.hF T.gF o m (pm o)) = true) = 0 := by rw [bI_t y]; decide
            rcases r2 with ⟨s1, s2⟩ | ⟨s1, s2⟩
            · exact Or.inl ⟨eq_f st (eq_f hne (eq_b e (eq_f (show ¬ (1 : Int32) = 0 by decide) (eq_b a1 (eq_b sv (eq_f yy s1)))))), s2⟩
            · exact Or.inr ⟨eq_f st (eq_f hne (eq_b e (eq_f (show ¬ (1 : Int32) = 0 by decide) (eq_b a1 (eq_b sv (eq_f yy s1)))))), s2⟩
          · exact ⟨M2, f2, Or.inr ⟨eq_f st (eq_f hne (eq_b e (eq_f (show ¬ (1 : Int32) = 0 by decide) (eq_b a1 (eq_b sv (eq_t (bI_f y) rfl)))))), o, by omega, z, y⟩⟩
        · obtain ⟨M', r1, r2⟩ := nxt M XF.r (fun _ => soB_iff.mpr (fun i hi hrc => absurd hrc (e' i hi)))
          refine ⟨M', r1, ?_⟩
          rcases r2 with ⟨s1, s2⟩ | ⟨s1, s2⟩
          · exact Or.inl ⟨eq_f st (eq_f hne (eq_b e (eq_t rfl s1))), s2⟩
          · exact Or.inr ⟨eq_f st (eq_f hne (eq_b e (eq_t rfl s1))), s2⟩
/-- what could have been held, as bits -/
theorem xheld {n0 q b c m n : Nat} {T : TP} {pm : Nat → Int32 × Nat} {s : Nat × List (Nat × Nat)} {ra rc rh : Nat → Nat} {M MY : Mem} (hn : 1700 ≤ n0) (hY : YT n0 b T MY) (hc : c < T.nc) (hm : m ≤ 9999) (hO : PsO T.nt T.nc pm) (hT : XT n0 q T M) (hS : SX q T.nc T.nd m pm s M) (hq : gR M 1 = q) (hR : XRw n T.nc ra rc rh M) :
    ∃ M', XF hA M M' ∧ ((fX11_findHeld n0 (nI c) M = some (nI (Dn (fun v => b01 (soB n ra rc rh c (min 40 (9999 - m)) (hby T c m v))) (T.nt + 1)), M') ∧ (∀ j, j < T.nc → ¬ j = c → soB n ra rc rh j (min 40 (9999 - m)) (hrs T.hF T.gF j m (pm j)) = true) ∧ (∀ v j, v ≤ T.nt → j ≤ min 40 (9999 - m) → gA M' (83 + v) j = nI (hby T c m v j))) ∨ (fX11_findHeld n0 (nI c) M = some (0, M') ∧ ∃ j, j < T.nc ∧ ¬ j = c ∧ ¬ soB n ra rc rh j (min 40 (9999 - m)) (hrs T.hF T.gF j m (pm j)) = true)) := by
  obtain ⟨o1, o2, o3, _⟩ := hT.2.1
  obtain ⟨M1, f1, r⟩ := xhd2 (n0 := n0) (n := n) (ra := ra) (rc := rc) (rh := rh) hn hY hc hm hO n0 0 M (by omega) (by omega) hT hS hq hR (fun j hj => by omega)
  rcases r with ⟨r1, r2⟩ | ⟨r1, r2⟩
  · obtain ⟨M2, s1, s2, s3⟩ := xhd69 (n0 := n0) (n := n) (ra := ra) (rc := rc) (rh := rh) hn hc hm (fun u j hu hj => hrs_le hY hc ⟨thI_ok hu, Nat.zero_le _⟩ (by omega)) n0 0 M1 (by omega) (by omega) (hT.xf f1 hA31) (hS.fr f1 hAst) (by rw [f1.1]; exact hq) (hR.fr f1 hA22) (fun v j hv => by omega)
    exact ⟨M2, f1.tr s3, Or.inl ⟨r1.trans s1, r2, s2⟩⟩
  · exact ⟨M1, f1, Or.inr ⟨r1, r2⟩⟩
end
section
/-! WHAT WAS HELD: the reference, and the call -/
def cnt (P : Nat → Bool) : Nat → Nat
  | 0 => 0
  | i + 1 => cnt P i + b01 (P i)
theorem cnt_le (P : Nat → Bool) : ∀ i, cnt P i ≤ i
  | 0 => Nat.le_refl _
  | i + 1 => by
    have := cnt_le P i
    have := b01_le (P i)
    show cnt P i + b01 (P i) ≤ i + 1
    omega
theorem cnt_full {P : Nat → Bool} : ∀ n, cnt P n = n ↔ ∀ i, i < n → P i = true
  | 0 => ⟨fun _ i hi => by omega, fun _ => rfl⟩
  | n + 1 => by
    have ih := cnt_full (P := P) n
    have l := cnt_le P n
    show cnt P n + b01 (P n) = n + 1 ↔ _
    constructor
    · intro h
      have b := b01_le (P n)
      have e1 : cnt P n = n := by omega
      have e2 : P n = true := by
        by_cases z : P n = true
        · exact z
        · have : b01 (P n) = 0 := if_neg z
          omega
      intro i hi
      by_cases z : i = n
      · rw [z]; exact e2
      · exact ih.mp e1 i (by omega)
    · intro h
      rw [ih.mpr (fun i hi => h i (by omega)), h n (by omega)]
      rfl
theorem cnt_add {P Q S : Nat → Bool} : ∀ n, (∀ i, i < n → b01 (P i) + b01 (Q i) = b01 (S i)) → cnt P n + cnt Q n = cnt S n
  | 0, _ => rfl
  | n + 1, h => by
    have ih := cnt_add (P := P) (Q := Q) (S := S) n (fun i hi => h i (by omega))
    have e := h n (by omega)
    show cnt P n + b01 (P n) + (cnt Q n + b01 (Q n)) = cnt S n + b01 (S n)
    omega
theorem YRw.fr {n nc : Nat} {ra rc rh : Nat → Nat} {P : Nat → Nat → Prop} {M M' : Mem} (h : YRw n nc ra rc rh M) (f : YF P M M') (hP : ∀ a i, P a i → ¬ (39 ≤ a ∧ a ≤ 41)) : YRw n nc ra rc rh M' := ⟨h.1, by rw [f.2.2.1]; exact h.2.1, fun k hk => by
  rw [f.gA (a := 39) (fun i z => hP 39 i z (by decide)) (by decide), f.gA (a := 40) (fun i z => hP 40 i z (by decide)) (by decide), f.gA (a := 41) (fun i z => hP 41 i z (by decide)) (by decide)]
  exact h.2.2 k hk⟩
/-- layer 1 and the hours by each thing -/
def hP (a i : Nat) : Prop := lP 1 a i ∨ a = 42
theorem hP28 : ∀ a i, hP a i → 28 ≤ a := fun a i z => by unfold hP lP tP dP at z; omega
theorem hP39 : ∀ a i, hP a i → ¬ (39 ≤ a ∧ a ≤ 41) := fun a i z => by unfold hP lP tP dP at z; omega
theorem hPn : ¬ hP 28 0 := fun z => by unfold hP lP tP dP at z; omega
theorem hP0 : ∀ a i, hP a i → ¬ lP 0 a i := fun a i z y => by unfold hP lP tP dP at z; unfold lP tP dP at y; omega
theorem hPsc {M M' : Mem} (f : YF hP M M') : YF scP M M' := f.wk (fun a i z => z.elim (fun y => Or.inl y) (fun y => Or.inr (Or.inr y)))
theorem lh {M M' : Mem} (f : YF (lP 1) M M') : YF hP M M' := f.wk (fun _ _ z => Or.inl z)
/-- whether a row is met by the palms behind k minutes -/
def mtQ (T : TP) (m : Nat) (pm : Nat → Int32 × Nat) (ra rc rh : Nat → Nat) (k : Nat) : Nat → Bool := fun i => decide (ra i = k ∧ hrs T.hF T.gF (rc i) m (pm (rc i)) k = rh i)
def mtP (T : TP) (m : Nat) (pm : Nat → Int32 × Nat) (ra rc rh : Nat → Nat) (k : Nat) : Nat → Bool := fun i => decide (ra i < k ∧ hrs T.hF T.gF (rc i) m (pm (rc i)) (ra i) = rh i)
theorem mt_add {T : TP} {m k n : Nat} {pm : Nat → Int32 × Nat} {ra rc rh : Nat → Nat} : cnt (mtP T m pm ra rc rh k) n + cnt (mtQ T m pm ra rc rh k) n = cnt (mtP T m pm ra rc rh (k + 1)) n := by
  refine cnt_add n (fun i _ => ?_)
  unfold mtP mtQ b01
  by_cases z : ra i < k
  · have e1 : ¬ ra i = k := by omega
    by_cases y : hrs T.hF T.gF (rc i) m (pm (rc i)) (ra i) = rh i
    · rw [if_pos (decide_eq_true ⟨z, y⟩), if_neg (fun u => e1 (of_decide_eq_true u).1), if_pos (decide_eq_true ⟨by omega, y⟩)]
    · rw [if_neg (fun u => y (of_decide_eq_true u).2), if_neg (fun u => e1 (of_decide_eq_true u).1), if_neg (fun u => y (of_decide_eq_true u).2)]
  · by_cases e1 : ra i = k
    · by_cases y : hrs T.hF T.gF (rc i) m (pm (rc i)) (ra i) = rh i
      · rw [if_neg (fun u => z (of_decide_eq_true u).1), if_pos (decide_eq_true ⟨e1, by rw [← e1]; exact y⟩), if_pos (decide_eq_true ⟨by omega, y⟩)]
      · rw [if_neg (fun u => z (of_decide_eq_true u).1), if_neg (fun u => y (by rw [e1]; exact (of_decide_eq_true u).2)), if_neg (fun u => y (of_decide_eq_true u).2)]
    · rw [if_neg (fun u => z (of_decide_eq_true u).1), if_neg (fun u => e1 (of_decide_eq_true u).1), if_neg (fun u => by have := (of_decide_eq_true u).1; omega)]
abbrev yb71 (n0 : Nat) (k4 : Int32 → Int32 → Int32 → Mem → Option (Int32 × Mem)) (k36 : Int32 → Int32 → Int32 → Int32 → Int32 → Mem → Option (Int32 × Mem)) : Nat → Int32 → Int32 → Int32 → Int32 → Int32 → Int32 → Mem → Option (Int32 × Mem) := loopN (bX12_heldBits_71 n0 k4 k36) (fun _ _ _ _ _ _ _ => none)
theorem yh71 {n0 b m k n : Nat} {T : TP} {pm : Nat → Int32 × Nat} {s : Nat × List (Nat × Nat)} {ra rc rh : Nat → Nat} {k4 : Int32 → Int32 → Int32 → Mem → Option (Int32 × Mem)} {k36 : Int32 → Int32 → Int32 → Int32 → Int32 → Mem → Option (Int32 × Mem)} {x1 x2 x3 : Int32} (hn : 1700 ≤ n0) (hO : PsO T.nt T.nc pm) (hs : sOk T.nd s) (hm : m + k ≤ 9999) (hk40 : k ≤ 40) :
    ∀ w i met M, i ≤ n → n < w + i → YT n0 b T M → LyD 1 T.nc (m + k) (trP T m pm k) s M → YRw n T.nc ra rc rh M → met ≤ 1000 →
    ∃ M', yb71 n0 k4 k36 w x1 x2 x3 (nI (met + cnt (mtQ T m pm ra rc rh k) i)) (nI k) (nI i) M = k36 x1 x2 x3 (nI (met + cnt (mtQ T m pm ra rc rh k) n)) (nI (k + 1)) M' ∧ LyD 1 T.nc (m + k + 1) (trP T m pm (k + 1)) s M' ∧ YF (lP 1) M M'
  | 0, i, met, M, hi, hw, _, _, _, _ => by omega
  | w + 1, i, met, M, hi, hw, hY, hL, hR, hmet => by
    show ∃ M', bX12_heldBits_71 n0 k4 k36 (yb71 n0 k4 k36 w) x1 x2 x3 _ (nI k) (nI i) M = _ ∧ _
    have h16 := hR.1
    have h5 := hY.2.1.2.1
    have hl := hs.l
    have ci := cnt_le (mtQ T m pm ra rc rh k) i
    unfold bX12_heldBits_71
    by_cases g : i = n
    · subst g
      obtain ⟨M1, g1, g2, g3⟩ := ytickD (v := 1) hn hY (by decide) hL (trP_ok hO k) hs (by omega)
      refine ⟨M1, eq_t (by rw [hR.2.1]; exact Int32.le_refl _) (eq_b g1 ?_), g2, g3⟩
      rw [show nI k + 1 = nI (k + 1) from nI_add k 1]
    · have cii : (nI i).toNatClampNeg = i := nI_clamp (by omega)
      obtain ⟨r1, r2, r3, r4, r5, r6⟩ := hR.2.2 i (by omega)
      have st : ¬ gI M 61 ≤ nI i := by rw [hR.2.1]; exact nI_ge (by omega) (by omega)
      have oi : ¬ oob (nI i) 16 := nI_in (by omega) (by decide)
      have k1 : nI i + 1 = nI (i + 1) := nI_add i 1
      have step : cnt (mtQ T m pm ra rc rh k) (i + 1) = cnt (mtQ T m pm ra rc rh k) i + b01 (mtQ T m pm ra rc rh k i) := rfl
      have nxt : ∀ M2 u1, YF (lP 1) M M2 → LyD 1 T.nc (m + k) (trP T m pm k) s M2 → u1 = nI (b01 (mtQ T m pm ra rc rh k i)) → ∃ M', fX12_heldBits_121 n0 k4 k36 (yb71 n0 k4 k36 w) x1 x2 x3 (nI k) (nI i) (nI (met + cnt (mtQ T m pm ra rc rh k) i)) u1 M2 = k36 x1 x2 x3 (nI (met + cnt (mtQ T m pm ra rc rh k) n)) (nI (k + 1)) M' ∧ LyD 1 T.nc (m + k + 1) (trP T m pm (k + 1)) s M' ∧ YF (lP 1) M M' := fun M2 u1 f2 L2 e => by
        obtain ⟨M', p1, p2, p3⟩ := yh71 (k4 := k4) (k36 := k36) (x1 := x1) (x2 := x2) (x3 := x3) hn hO hs hm hk40 w (i + 1) met M2 (by omega) (by omega) (hY.yf f2 lP28) L2 (hR.fr f2 (fun a i z => by unfold lP tP dP at z; omega)) hmet
        refine ⟨M', ?_, p2, f2.tr p3⟩
        unfold fX12_heldBits_121
        refine eq_e (v' := nI (met + cnt (mtQ T m pm ra rc rh k) (i + 1))) ?_ ?_
        · rw [e, nI_add, step, Nat.add_assoc]
        · rw [k1]; exact p1
      by_cases z : ra i = k
      · obtain ⟨l1, M1, e1, e2⟩ := yhr hY (v := 1) (by decide) hL.1 (trP_ok hO k) (by omega) r2
        have L1 : LyD 1 T.nc (m + k) (trP T m pm k) s M1 := LyD.fr (P := fun _ _ => False) hL e2.y h5 (by omega) (fun _ _ z => z.elim)
        have a41 : gA M1 41 (nI i).toNatClampNeg = nI (rh i) := by rw [cii, e2.2.2.2.1 41 (by decide)]; exact r6
        have hq : T.hF (rc i) (trP T m pm k (rc i)).1 (trP T m pm k (rc i)).2 (m + k) = hrs T.hF T.gF (rc i) m (pm (rc i)) k := rfl
        rw [hq] at l1 e1
        by_cases y : hrs T.hF T.gF (rc i) m (pm (rc i)) k = rh i
        · obtain ⟨M', p1, p2, p3⟩ := nxt M1 1 e2.y L1 (by
            rw [show mtQ T m pm ra rc rh k i = true from decide_eq_true ⟨z, y⟩]
            rfl)
          exact ⟨M', eq_f st (eq_f oi (eq_t (by rw [cii, r4, z]) (eq_f oi (eq_b (by rw [cii, r5]; exact e1) (eq_f oi (eq_t (by rw [a41]; exact congrArg nI y) p1)))))), p2, p3⟩
        · obtain ⟨M', p1, p2, p3⟩ := nxt M1 0 e2.y L1 (by
            rw [show mtQ T m pm ra rc rh k i = false from decide_eq_false (fun u => y u.2)]
            rfl)
          refine ⟨M', eq_f st (eq_f oi (eq_t (by rw [cii, r4, z]) (eq_f oi (eq_b (by rw [cii, r5]; exact e1) (eq_f oi (eq_f (by rw [a41]; exact fun u => y ((nI_eq (by omega) (by omega)).mp u)) ?_)))))), p2, p3⟩
          unfold fX12_heldBits_120
          exact p1
      · obtain ⟨M', p1, p2, p3⟩ := nxt M 0 YF.r hL (by
          rw [show mtQ T m pm ra rc rh k i = false from decide_eq_false (fun u => z u.1)]
          rfl)
        refine ⟨M', eq_f st (eq_f oi (eq_f (by rw [cii, r4]; exact fun u => z ((nI_eq (by omega) (by omega)).mp u)) ?_)), p2, p3⟩
        unfold fX12_heldBits_120
        exact p1
theorem y41Ix (u k : Nat) : (41 : Int32) * nI u + nI k = nI (41 * u + k) := by
  rw [show (41 : Int32) = nI 41 from rfl, nI_mul, nI_add]
abbrev yb36 (n0 : Nat) (k4 : Int32 → Int32 → Int32 → Mem → Option (Int32 × Mem)) : Nat → Int32 → Int32 → Int32 → Int32 → Int32 → Mem → Option (Int32 × Mem) := loopN (bX12_heldBits_36 n0 k4) (fun _ _ _ _ _ _ => none)
theorem yh36 {n0 b c m n u : Nat} {T : TP} {pm : Nat → Int32 × Nat} {s : Nat × List (Nat × Nat)} {ra rc rh : Nat → Nat} {k4 : Int32 → Int32 → Int32 → Mem → Option (Int32 × Mem)} {x2 : Int32} (hn : 1700 ≤ n0) (hc : c < T.nc) (hu : u ≤ 6) (hO : PsO T.nt T.nc pm) (hs : sOk T.nd s) (hm : m ≤ 9999) :
    ∀ w k M, k ≤ min 40 (9999 - m) + 1 → min 40 (9999 - m) + 1 < w + k → YT n0 b T M → LyD 1 T.nc (m + k) (trP T m pm k) s M → YRw n T.nc ra rc rh M → gA M 28 0 = nI m →
    ∃ M', yb36 n0 k4 w (nI c) x2 (thI u) (nI (cnt (mtP T m pm ra rc rh k) n)) (nI k) M = fX12_heldBits_160 n0 k4 (nI c) (thI u) x2 (if cnt (mtP T m pm ra rc rh (min 40 (9999 - m) + 1)) n = n then (1 : Int32) <<< (nI u &&& 31) else 0) M' ∧ (∀ j, k ≤ j → j ≤ min 40 (9999 - m) → gA M' 42 (41 * u + j) = nI (hrs T.hF T.gF c m (pm c) j)) ∧ (∀ i, ¬ (41 * u + k ≤ i ∧ i < 41 * u + 41) → gA M' 42 i = gA M 42 i) ∧ YF hP M M'
  | 0, k, M, hk, hw, _, _, _, _ => by omega
  | w + 1, k, M, hk, hw, hY, hL, hR, h28 => by
    show ∃ M', bX12_heldBits_36 n0 k4 (yb36 n0 k4 w) (nI c) x2 (thI u) _ (nI k) M = _ ∧ _
    have h16 := hR.1
    have h5 := hY.2.1.2.1
    have hl := hs.l
    unfold bX12_heldBits_36
    by_cases g : k = min 40 (9999 - m) + 1
    · have a0 := yahF (n0 := n0) (lo := 0) (hi := 40) (k := k) h28 hm (by decide) (by decide) (by omega) (by omega)
      have cl := cnt_le (mtP T m pm ra rc rh k) n
      refine ⟨M, eq_b a0 (eq_t rfl ?_), fun j h1 h2 => by omega, fun _ _ => rfl, YF.r⟩
      rw [← g]
      by_cases z : cnt (mtP T m pm ra rc rh k) n = n
      · rw [if_pos z, thI_1]
        exact eq_t (by show nI _ = gI M 61; rw [hR.2.1, z]) rfl
      · rw [if_neg z]
        exact eq_f (by show ¬ nI _ = gI M 61; rw [hR.2.1]; exact fun y => z ((nI_eq (by omega) (by omega)).mp y)) rfl
    · have a1 := yahT (n0 := n0) (lo := 0) (hi := 40) (k := k) h28 (by omega) (by omega) (by decide) (by omega)
      obtain ⟨l1, M1, e1, e2⟩ := yhr hY (v := 1) (by decide) hL.1 (trP_ok hO k) (by omega) hc
      have ev : T.hF c (trP T m pm k c).1 (trP T m pm k c).2 (m + k) = hrs T.hF T.gF c m (pm c) k := rfl
      rw [ev] at e1 l1
      have hM2 : ∃ M2, M2 = sA M1 42 (41 * u + k) (nI (hrs T.hF T.gF c m (pm c) k)) := ⟨_, rfl⟩
      obtain ⟨M2, eM⟩ := hM2
      have f2 : YF hP M M2 := by rw [eM]; exact YF.a (e2.y) (Or.inr rfl)
      have L2 : LyD 1 T.nc (m + k) (trP T m pm k) s M2 := LyD.fr (P := fun a i => a = 42) hL (by rw [eM]; exact YF.a (e2.y) rfl) h5 (by omega) (fun a i z y => by unfold lP tP dP at y; omega)
      obtain ⟨M3, p1, p2, p3⟩ := yh71 (n0 := n0) (b := b) (n := n) (ra := ra) (rc := rc) (rh := rh) (k4 := k4) (k36 := yb36 n0 k4 w) (x1 := nI c) (x2 := x2) (x3 := thI u) hn hO hs (show m + k ≤ 9999 by omega) (by omega) n0 0 (cnt (mtP T m pm ra rc rh k) n) M2 (by omega) (by omega) (hY.yf f2 hP28) L2 (hR.fr f2 hP39) (by have := cnt_le (mtP T m pm ra rc rh k) n; omega)
      rw [mt_add] at p1
      have f3 : YF hP M M3 := f2.tr (lh p3)
      have a42 : ∀ i, gA M3 42 i = gA M2 42 i := fun i => p3.2.2.2.1 42 i (by decide) (fun z => by unfold lP tP dP at z; omega)
      have b42 : ∀ i, gA M1 42 i = gA M 42 i := fun i => by rw [e2.2.2.2.1 42 (by decide)]
      obtain ⟨M', r1, r2, r3, r4⟩ := yh36 (k4 := k4) (x2 := x2) hn hc hu hO hs hm w (k + 1) M3 (by omega) (by omega) (hY.yf f3 hP28) p2 (hR.fr f3 hP39) (m28f h28 f3 hPn)
      refine ⟨M', ?_, fun j h1 h2 => ?_, fun i z => ?_, f3.tr r4⟩
      · refine eq_b a1 (eq_f (show ¬ (1 : Int32) = 0 by decide) (eq_b e1 ?_))
        rw [thI_1, y41Ix]
        refine eq_f (nI_in (by omega) (by decide)) (eq_e (v' := M2) ?_ (Eq.trans p1 r1))
        rw [nI_clamp (by omega), eM]
      · by_cases z : j = k
        · rw [z, r3 _ (by omega), a42, eM, gA_sA, if_pos rfl, if_pos rfl]
        · exact r2 j (by omega) h2
      · rw [r3 i (by omega), a42, eM, gA_sA, if_pos rfl, if_neg (by omega), b42]
abbrev yb4 (n0 : Nat) : Nat → Int32 → Int32 → Int32 → Mem → Option (Int32 × Mem) := loopN (bX12_heldBits_4 n0) (fun _ _ _ _ => none)
/-- all rows are met with the thing of choice u -/
def metB (T : TP) (m n c : Nat) (pm : Nat → Int32 × Nat) (ra rc rh : Nat → Nat) (u : Nat) : Bool := decide (cnt (mtP T m (upP pm c (thI u, 0)) ra rc rh (min 40 (9999 - m) + 1)) n = n)
theorem yh4 {n0 b c m n : Nat} {T : TP} {pm : Nat → Int32 × Nat} {s : Nat × List (Nat × Nat)} {ra rc rh : Nat → Nat} (hn : 1700 ≤ n0) (hc : c < T.nc) (hO : PsO T.nt T.nc pm) (hs : sOk T.nd s) (hm : m ≤ 9999) :
    ∀ w u M, u ≤ T.nt + 1 → T.nt + 1 < w + u → YT n0 b T M → LyD 0 T.nc m pm s M → YRw n T.nc ra rc rh M → (∀ v j, v < u → j ≤ min 40 (9999 - m) → gA M 42 (41 * v + j) = nI (hby T c m v j)) →
    ∃ M', yb4 n0 w (nI c) (nI (Dn (fun v => b01 (metB T m n c pm ra rc rh v)) u)) (thI u) M = some (nI (Dn (fun v => b01 (metB T m n c pm ra rc rh v)) (T.nt + 1)), M') ∧ (∀ v j, v ≤ T.nt → j ≤ min 40 (9999 - m) → gA M' 42 (41 * v + j) = nI (hby T c m v j)) ∧ YF hP M M'
  | 0, u, M, hu, hw, _, _, _, _ => by omega
  | w + 1, u, M, hu, hw, hY, hL, hR, hB => by
    show ∃ M', bX12_heldBits_4 n0 (yb4 n0 w) (nI c) _ (thI u) M = _ ∧ _
    obtain ⟨o1, o2, o3, _⟩ := hY.2.1
    have hb := hY.2.2.1
    have hl := hs.l
    have o13 : ¬ oob (gI M 13) 2 := by rw [hY.2.2.2.1]; exact nI_in (by omega) (by decide)
    have yq : gA M 2 (gI M 13).toNatClampNeg = nI T.nt := by rw [hY.2.2.2.1, nI_clamp (by omega)]; exact hY.2.2.2.2.1
    unfold bX12_heldBits_4
    by_cases g : u = T.nt + 1
    · subst g
      exact ⟨M, eq_f o13 (eq_t (by rw [yq, ← thI_s]; exact Int32.le_refl _) rfl), fun v j hv hj => hB v j (by omega) hj, YF.r⟩
    · obtain ⟨M1, b1, b2, b3⟩ := ycopyD (n0 := n0) (v := 1) (u := 0) hn (by decide) (by decide) (by decide) o2 (by omega) hL
      obtain ⟨M2, c1, c2, c3⟩ := yput1 (n0 := n0) (t := thI u) b2 o2 hc
      have f2 : YF hP M M2 := lh (b3.tr c3)
      have PO := upP_ok (c := c) hO (show pOk T.nt (thI u, 0) from ⟨thI_ok (by omega), Nat.zero_le _⟩)
      have z0 : cnt (mtP T m (upP pm c (thI u, 0)) ra rc rh 0) n = 0 := by
        have : ∀ i, cnt (mtP T m (upP pm c (thI u, 0)) ra rc rh 0) i = 0 := fun i => by
          induction i with
          | zero => rfl
          | succ i ih =>
            show cnt _ i + b01 (mtP T m (upP pm c (thI u, 0)) ra rc rh 0 i) = 0
            rw [ih, show mtP T m (upP pm c (thI u, 0)) ra rc rh 0 i = false from decide_eq_false (fun z => by omega)]
            rfl
        exact this n
      obtain ⟨M3, p1, p2, p3, p4⟩ := yh36 (n0 := n0) (b := b) (c := c) (n := n) (u := u) (ra := ra) (rc := rc) (rh := rh) (k4 := yb4 n0 w) (x2 := nI (Dn (fun v => b01 (metB T m n c pm ra rc rh v)) u)) hn hc (by omega) PO hs hm n0 0 M2 (by omega) (by omega) (hY.yf f2 hP28) c2 (hR.fr f2 hP39) (m28f hL.1.1 f2 hPn)
      rw [z0] at p1
      have f3 : YF hP M M3 := f2.tr p4
      have L3 : LyD 0 T.nc m pm s M3 := hL.fr f3 o2 (by omega) hP0
      have D7 := Dn7 (f := fun v => b01 (metB T m n c pm ra rc rh v)) (fun d => b01_le _) u (by omega)
      have P7 := p128 (n := u) (by omega)
      have a42 : ∀ i, gA M2 42 i = gA M 42 i := fun i => (b3.tr c3).2.2.2.1 42 i (by decide) (fun z => by unfold lP tP dP at z; omega)
      obtain ⟨M', r1, r2, r3⟩ := yh4 (n := n) (ra := ra) (rc := rc) (rh := rh) hn hc hO hs hm w (u + 1) M3 (by omega) (by omega) (hY.yf f3 hP28) L3 (hR.fr f3 hP39) (fun v j hv hj => by
        by_cases z : v = u
        · rw [z, p2 j (by omega) hj, upP_at]
          rfl
        · rw [p3 _ (by omega), a42]
          exact hB v j (by omega) hj)
      refine ⟨M', eq_f o13 (eq_f (by rw [yq]; exact thI_lt (by omega) o1) (eq_b b1 (eq_b c1 (Eq.trans p1 ?_)))), r2, f3.tr r3⟩
      have step : Dn (fun v => b01 (metB T m n c pm ra rc rh v)) (u + 1) = Dn (fun v => b01 (metB T m n c pm ra rc rh v)) u + b01 (metB T m n c pm ra rc rh u) * 2 ^ u := rfl
      unfold fX12_heldBits_160
      refine eq_e (v' := nI (Dn (fun v => b01 (metB T m n c pm ra rc rh v)) (u + 1))) ?_ ?_
      · by_cases z : cnt (mtP T m (upP pm c (thI u, 0)) ra rc rh (min 40 (9999 - m) + 1)) n = n
        · rw [if_pos z, b7_or u (by omega) _ (by omega) D7.1, step, show metB T m n c pm ra rc rh u = true from decide_eq_true z]
          congr 2
          show 2 ^ u = 1 * 2 ^ u
          omega
        · rw [if_neg z, show (0 : Int32) = nI 0 from rfl, nOr, Nat.or_zero, step, show metB T m n c pm ra rc rh u = false from decide_eq_false z]
          congr 1
          show _ = _ + 0 * 2 ^ u
          omega
      · rw [thI_1, thI_s]
        exact r1
theorem met_iff {T : TP} {m n c u : Nat} {pm : Nat → Int32 × Nat} {ra rc rh : Nat → Nat} (hr : ∀ i, i < n → rc i < T.nc) : metB T m n c pm ra rc rh u = true ↔ ((∀ j, j < T.nc → ¬ j = c → soB n ra rc rh j (min 40 (9999 - m)) (hrs T.hF T.gF j m (pm j)) = true) ∧ soB n ra rc rh c (min 40 (9999 - m)) (hby T c m u) = true) := by
  unfold metB
  rw [decide_eq_true_iff, cnt_full]
  have ex : ∀ i, i < n → (mtP T m (upP pm c (thI u, 0)) ra rc rh (min 40 (9999 - m) + 1) i = true ↔ (ra i ≤ min 40 (9999 - m) ∧ hrs T.hF T.gF (rc i) m (upP pm c (thI u, 0) (rc i)) (ra i) = rh i)) := fun i _ => by
    unfold mtP
    rw [decide_eq_true_iff, Nat.lt_succ_iff]
  constructor
  · intro h
    refine ⟨fun j hj hne => soB_iff.mpr (fun i hi hrc => ?_), soB_iff.mpr (fun i hi hrc => ?_)⟩
    · have := (ex i hi).mp (h i hi)
      rw [hrc, show upP pm c (thI u, 0) j = pm j from if_neg hne] at this
      exact this
    · have := (ex i hi).mp (h i hi)
      rw [hrc, upP_at] at this
      exact this
  · intro h i hi
    refine (ex i hi).mpr ?_
    by_cases z : rc i = c
    · rw [z, upP_at]
      exact soB_iff.mp h.2 i hi z
    · rw [show upP pm c (thI u, 0) (rc i) = pm (rc i) from if_neg z]
      exact soB_iff.mp (h.1 (rc i) (hr i hi) z) i hi rfl
/-- what was held, as bits, on both sides; the hours by each thing -/
theorem held2 {n0 q b : Nat} {T : TP} {nr C m c : Nat} {pm : Nat → Int32 × Nat} {s : Nat × List (Nat × Nat)} {MX MY : Mem} (hn : 1700 ≤ n0) (h : RR n0 q b T nr C m pm s MX MY) (hc : c < T.nc) : ∃ D MX' MY', D < 2 ^ (T.nt + 1) ∧ fX11_findHeld n0 (nI c) MX = some (nI D, MX') ∧ fX12_heldBits n0 (nI c) MY = some (nI D, MY') ∧ XF hA MX MX' ∧ YF hP MY MY' ∧ (¬ D = 0 → ∀ v j, v ≤ T.nt → j ≤ min 40 (9999 - m) → gA MX' (83 + v) j = nI (hby T c m v j)) ∧ ∀ v j, v ≤ T.nt → j ≤ min 40 (9999 - m) → gA MY' 42 (41 * v + j) = nI (hby T c m v j) := by
  obtain ⟨h1, h2, h3, h4, h5, h6, h7⟩ := id h
  obtain ⟨o1, o2, o3, _⟩ := h1.2.2.2.1.2.1
  obtain ⟨n, ra, rc, rh, rX, rY⟩ := h6.rows o2
  obtain ⟨Y1, b1, b2, b3⟩ := yh4 (n0 := n0) (b := b) (n := n) (ra := ra) (rc := rc) (rh := rh) hn hc h2.2.1 h2.2.2 h2.1 n0 0 MY (by omega) (by omega) h1.2.2.2.2.1 h4 rY (fun v j hv => by omega)
  have Dl := (Dn7 (f := fun v => b01 (metB T m n c pm ra rc rh v)) (fun d => b01_le _) (T.nt + 1) (by omega)).1
  have hr : ∀ i, i < n → rc i < T.nc := fun i hi => (rX.2.2 i hi).2.1
  obtain ⟨X1, f1, r⟩ := xheld (n0 := n0) (n := n) (ra := ra) (rc := rc) (rh := rh) hn h1.2.2.2.2.1 hc h2.1 h2.2.1 h1.2.2.2.1 h3 h1.2.1 rX
  refine ⟨_, X1, Y1, Dl, ?_, b1, f1, b3, ?_, b2⟩
  · rcases r with ⟨r1, r2, r3⟩ | ⟨r1, j, j1, j2, j3⟩
    · rw [r1]
      congr 3
      refine Dn_congr _ (fun e _ => ?_)
      show b01 _ = b01 _
      by_cases z : soB n ra rc rh c (min 40 (9999 - m)) (hby T c m e) = true
      · rw [z, (met_iff hr).mpr ⟨r2, z⟩]
      · rw [show soB n ra rc rh c (min 40 (9999 - m)) (hby T c m e) = false by simpa using z, show metB T m n c pm ra rc rh e = false by
          by_cases y : metB T m n c pm ra rc rh e = true
          · exact absurd ((met_iff hr).mp y).2 z
          · simpa using y]
    · rw [r1, Dn_zero (f := fun v => b01 (metB T m n c pm ra rc rh v)) _ (fun e _ => by
        show b01 _ = 0
        by_cases y : metB T m n c pm ra rc rh e = true
        · exact absurd (((met_iff hr).mp y).1 j j1 j2) j3
        · exact if_neg y)]
      rfl
  · intro hD
    rcases r with ⟨r1, r2, r3⟩ | ⟨r1, j, j1, j2, j3⟩
    · exact r3
    · exact absurd (Dn_zero (f := fun v => b01 (metB T m n c pm ra rc rh v)) _ (fun e _ => by
        show b01 _ = 0
        by_cases y : metB T m n c pm ra rc rh e = true
        · exact absurd (((met_iff hr).mp y).1 j j1 j2) j3
        · exact if_neg y)) hD
theorem cHeld {n0 : Nat} {x : Int32} {MX MY : Mem} (hn : 1700 ≤ n0) (h : R n0 MX MY) : Cal n0 (fX11_held n0 x MX) (fX12_held n0 x MY) := by
  have h0 := h
  obtain ⟨q, b, T, nr, C, m, pm, s, h⟩ := h
  unfold fX11_held fX12_held
  rcases isCo h.1 x with ⟨c, hc, rfl, e1, e2⟩ | ⟨z, e1, e2⟩
  · obtain ⟨D, X1, Y1, d1, d2, d3, d4, d5, _⟩ := held2 hn h hc
    exact Cal.scr h (eq_b e1 (eq_f (show ¬ (1 : Int32) = 0 by decide) (eq_b d2 rfl))) (eq_b e2 (eq_f (show ¬ (1 : Int32) = 0 by decide) (eq_b d3 rfl))) (hAsc d4) (hPsc d5)
  · exact Cal.same (r := -1) h0 (eq_b e1 (eq_t rfl rfl)) (eq_b e2 (eq_t rfl rfl))
end
section
/-! TELLING ON BOTH SIDES -/
def alB (D : Nat) (h : Nat → Nat) (a : Nat) : Nat → Bool := fun b => decide (D / 2 ^ a % 2 = 1 ∧ D / 2 ^ b % 2 = 1 ∧ h a = h b)
def mx (D : Nat) (h : Nat → Nat) (N : Nat) : Nat → Nat
  | 0 => 0
  | a + 1 => max (mx D h N a) (cnt (alB D h a) N)
theorem mx_le (D : Nat) (h : Nat → Nat) (N : Nat) : ∀ a, mx D h N a ≤ N
  | 0 => Nat.zero_le _
  | a + 1 => by
    have := mx_le D h N a
    have := cnt_le (alB D h a) N
    show max _ _ ≤ N
    omega
theorem bit_hi {D n e : Nat} (hD : D < 2 ^ n) (he : n ≤ e) : ¬ D / 2 ^ e % 2 = 1 := by
  have : 2 ^ n ≤ 2 ^ e := Nat.pow_le_pow_right (by decide) he
  rw [Nat.div_eq_of_lt (by omega)]
  decide
theorem cnt_ext {P : Nat → Bool} {n : Nat} : ∀ k, (∀ i, n ≤ i → P i = false) → cnt P (n + k) = cnt P n
  | 0, _ => rfl
  | k + 1, h => by
    show cnt P (n + k) + b01 (P (n + k)) = _
    rw [cnt_ext k h, h (n + k) (by omega)]
    rfl
theorem cnt_none {P : Nat → Bool} : ∀ n, (∀ i, i < n → P i = false) → cnt P n = 0
  | 0, _ => rfl
  | n + 1, h => by
    show cnt P n + b01 (P n) = 0
    rw [cnt_none n (fun i hi => h i (by omega)), h n (by omega)]
    rfl
theorem mx_7 {D n : Nat} {h : Nat → Nat} (hn : n ≤ 7) (hD : D < 2 ^ n) : mx D h 7 7 = mx D h n n := by
  have e1 : ∀ a, cnt (alB D h a) 7 = cnt (alB D h a) n := fun a => by
    rw [show 7 = n + (7 - n) by omega]
    exact cnt_ext _ (fun i hi => decide_eq_false (fun z => bit_hi hD hi z.2.1))
  have e2 : ∀ a, mx D h 7 a = mx D h n a := fun a => by
    induction a with
    | zero => rfl
    | succ a ih =>
      show max (mx D h 7 a) (cnt (alB D h a) 7) = max (mx D h n a) (cnt (alB D h a) n)
      rw [ih, e1]
  rw [e2]
  have e3 : ∀ k, mx D h n (n + k) = mx D h n n := fun k => by
    induction k with
    | zero => rfl
    | succ k ih =>
      show max (mx D h n (n + k)) (cnt (alB D h (n + k)) n) = _
      rw [ih, cnt_none (P := alB D h (n + k)) n (fun i _ => decide_eq_false (fun z => bit_hi hD (by omega) z.1)), Nat.max_eq_left (Nat.zero_le _)]
  rw [show 7 = n + (7 - n) by omega]
  exact e3 _
abbrev xm30 (n0 : Nat) (k17 : Int32 → Int32 → Int32 → Int32 → Mem → Option (Int32 × Mem)) : Nat → Int32 → Int32 → Int32 → Int32 → Int32 → Int32 → Mem → Option (Int32 × Mem) := loopN (bX5_mostLeft_30 n0 k17) (fun _ _ _ _ _ _ _ => none)
theorem xml30 {n0 D k nt a : Nat} {h : Nat → Nat} {x3 : Int32} {k17 : Int32 → Int32 → Int32 → Int32 → Mem → Option (Int32 × Mem)} {M : Mem} (hnt : nt ≤ 6) (hD : D < 2 ^ (nt + 1)) (hk : k ≤ 40) (ha : a < 7) (hB : ∀ v, v ≤ nt → gA M (83 + v) k = nI (h v) ∧ h v ≤ 23) : ∀ w o, o ≤ 7 → 7 < w + o → xm30 n0 k17 w (nI D) (nI k) x3 (nI a) (nI (cnt (alB D h a) o)) (nI o) M = k17 (nI D) (nI k) (imax x3 (nI (cnt (alB D h a) 7))) (nI (a + 1)) M
  | 0, o, ho, hw => by omega
  | w + 1, o, ho, hw => by
    show bX5_mostLeft_30 n0 k17 (xm30 n0 k17 w) (nI D) (nI k) x3 (nI a) _ (nI o) M = _
    have D128 : D < 128 := Nat.lt_of_lt_of_le hD (p128 (by omega))
    unfold bX5_mostLeft_30
    by_cases g : o = 7
    · rw [g]
      refine eq_t (by decide) (eq_n ?_)
      rw [show nI a + 1 = nI (a + 1) from nI_add a 1]
    · have k1 : nI o + 1 = nI (o + 1) := nI_add o 1
      have step : cnt (alB D h a) (o + 1) = cnt (alB D h a) o + b01 (alB D h a o) := rfl
      have ih := xml30 (n0 := n0) (x3 := x3) (k17 := k17) hnt hD hk ha hB w (o + 1) (by omega) (by omega)
      have no : alB D h a o = false → fX5_mostLeft_61 n0 k17 (xm30 n0 k17 w) (nI D) (nI k) x3 (nI a) (nI (cnt (alB D h a) o)) (nI o) M = k17 (nI D) (nI k) (imax x3 (nI (cnt (alB D h a) 7))) (nI (a + 1)) M := fun z => by
        unfold fX5_mostLeft_61 fX5_mostLeft_62 fX5_mostLeft_93
        rw [step, z] at ih
        rw [k1]
        exact eq_t rfl ih
      have st : ¬ (7 : Int32) ≤ nI o := nI_ge (b := 7) (by omega) (by decide)
      by_cases z1 : D / 2 ^ a % 2 = 1
      · by_cases z2 : D / 2 ^ o % 2 = 1
        · have la : a ≤ nt := by
            rcases Nat.lt_or_ge nt a with y | y
            · exact absurd z1 (bit_hi hD y)
            · exact y
          have lo : o ≤ nt := by
            rcases Nat.lt_or_ge nt o with y | y
            · exact absurd z2 (bit_hi hD y)
            · exact y
          have ca : (nI a).toNatClampNeg = a := nI_clamp (by omega)
          have co : (nI o).toNatClampNeg = o := nI_clamp (by omega)
          have ck : (nI k).toNatClampNeg = k := nI_clamp (by omega)
          obtain ⟨h1, l1⟩ := hB a la
          obtain ⟨h2, l2⟩ := hB o lo
          refine eq_f st (eq_t ((b7_has D D128 a ha).mpr z1) (eq_t ((b7_has D D128 o (by omega)).mpr z2) ?_))
          unfold fX5_mostLeft_62
          simp only [ca, co, ck]
          refine eq_f (by decide) (eq_f (nI_in ha (by decide)) (eq_f (by rw [ln83 a ha]; exact nI_in (by omega) (by decide)) (eq_f (nI_in (by omega) (by decide)) (eq_f (by rw [ln83 o (by omega)]; exact nI_in (by omega) (by decide)) ?_))))
          unfold fX5_mostLeft_93
          rw [k1]
          by_cases y : h a = h o
          · refine eq_t (by rw [h1, h2, y]) ?_
            rw [step, show alB D h a o = true from decide_eq_true ⟨z1, z2, y⟩] at ih
            rw [show nI (cnt (alB D h a) o) + 1 = nI (cnt (alB D h a) o + 1) from nI_add _ 1]
            exact ih
          · refine eq_f (by rw [h1, h2]; exact fun u => y ((nI_eq (by omega) (by omega)).mp u)) ?_
            rw [step, show alB D h a o = false from decide_eq_false (fun u => y u.2.2)] at ih
            exact ih
        · exact eq_f st (eq_t ((b7_has D D128 a ha).mpr z1) (eq_f (fun u => z2 ((b7_has D D128 o (by omega)).mp u)) (no (decide_eq_false (fun u => z2 u.2.1)))))
      · exact eq_f st (eq_f (fun u => z1 ((b7_has D D128 a ha).mp u)) (no (decide_eq_false (fun u => z1 u.1))))
abbrev xm17 (n0 : Nat) : Nat → Int32 → Int32 → Int32 → Int32 → Mem → Option (Int32 × Mem) := loopN (bX5_mostLeft_17 n0) (fun _ _ _ _ _ => none)
theorem xml17 {n0 D k nt : Nat} {h : Nat → Nat} {M : Mem} (hn : 1700 ≤ n0) (hnt : nt ≤ 6) (hD : D < 2 ^ (nt + 1)) (hk : k ≤ 40) (hB : ∀ v, v ≤ nt → gA M (83 + v) k = nI (h v) ∧ h v ≤ 23) : ∀ w a, a ≤ 7 → 7 < w + a → xm17 n0 w (nI D) (nI k) (nI (mx D h 7 a)) (nI a) M = some (nI (mx D h 7 7), M)
  | 0, a, ha, hw => by omega
  | w + 1, a, ha, hw => by
    show bX5_mostLeft_17 n0 (xm17 n0 w) (nI D) (nI k) (nI (mx D h 7 a)) (nI a) M = _
    unfold bX5_mostLeft_17
    by_cases g : a = 7
    · rw [g]
      exact eq_t (by decide) rfl
    · refine eq_f (nI_ge (b := 7) (by omega) (by decide)) ?_
      have e := xml30 (n0 := n0) (x3 := nI (mx D h 7 a)) (k17 := xm17 n0 w) (M := M) hnt hD hk (show a < 7 by omega) hB n0 0 (by omega) (by omega)
      have l1 := mx_le D h 7 a
      have l2 := cnt_le (alB D h a) 7
      rw [imax_nI (by omega) (by omega)] at e
      exact e.trans (xml17 hn hnt hD hk hB w (a + 1) (by omega) (by omega))
theorem xml {n0 D k nt : Nat} {h : Nat → Nat} {M : Mem} (hn : 1700 ≤ n0) (hnt : nt ≤ 6) (hD : D < 2 ^ (nt + 1)) (hk : k ≤ 40) (hB : ∀ v, v ≤ nt → gA M (83 + v) k = nI (h v) ∧ h v ≤ 23) : fX5_mostLeft n0 (nI D) (nI k) M = some (nI (mx D h (nt + 1) (nt + 1)), M) := by
  unfold fX5_mostLeft
  rw [← mx_7 (n := nt + 1) (by omega) hD]
  exact eq_f (nI_nn (by omega)) (eq_t (nI_le (b := 40) hk (by decide)) (xml17 hn hnt hD hk hB n0 0 (by omega) (by omega)))
theorem y7has2 {n0 D d : Nat} {M : Mem} (hD : D < 128) (hd : d < 7) : fX12_has2 n0 (nI D) (nI d) M = some (bI (D / 2 ^ d % 2 = 1), M) := by
  unfold fX12_has2
  by_cases g : D / 2 ^ d % 2 = 1
  · rw [bI_t g]; exact eq_t ((b7_has D hD d hd).mpr g) rfl
  · rw [bI_f g]; exact eq_f (fun z => g ((b7_has D hD d hd).mp z)) rfl
abbrev yt78 (n0 : Nat) (k36 : Int32 → Int32 → Int32 → Int32 → Int32 → Mem → Option (Int32 × Mem)) (k58 : Int32 → Int32 → Int32 → Int32 → Int32 → Int32 → Int32 → Mem → Option (Int32 × Mem)) : Nat → Int32 → Int32 → Int32 → Int32 → Int32 → Int32 → Int32 → Int32 → Int32 → Mem → Option (Int32 × Mem) := loopN (bX12_tells_78 n0 k36 k58) (fun _ _ _ _ _ _ _ _ _ _ => none)
theorem yml78 {n0 b D k nt a : Nat} {h : Nat → Nat} {x2 x4 x5 : Int32} {k36 : Int32 → Int32 → Int32 → Int32 → Int32 → Mem → Option (Int32 × Mem)} {k58 : Int32 → Int32 → Int32 → Int32 → Int32 → Int32 → Int32 → Mem → Option (Int32 × Mem)} {M : Mem} (h13 : gI M 13 = nI b) (hb : b ≤ 1) (y2 : gA M 2 b = nI nt) (hnt : nt ≤ 6) (hD : D < 2 ^ (nt + 1)) (hk : k ≤ 40) (ha : a ≤ nt) (hB : ∀ v, v ≤ nt → gA M 42 (41 * v + k) = nI (h v) ∧ h v ≤ 23) : ∀ w o, o ≤ nt + 1 → nt + 1 < w + o → yt78 n0 k36 k58 w x2 (nI D) x4 x5 (nI k) (nI (mx D h (nt + 1) a)) (nI a) (nI (cnt (alB D h a) o)) (nI o) M = k58 x2 (nI D) x4 x5 (nI k) (nI (mx D h (nt + 1) (a + 1))) (nI (a + 1)) M
  | 0, o, ho, hw => by omega
  | w + 1, o, ho, hw => by
    show bX12_tells_78 n0 k36 k58 (yt78 n0 k36 k58 w) x2 (nI D) x4 x5 (nI k) (nI (mx D h (nt + 1) a)) (nI a) _ (nI o) M = _
    have D128 : D < 128 := Nat.lt_of_lt_of_le hD (p128 (by omega))
    have o13 : ¬ oob (gI M 13) 2 := by rw [h13]; exact nI_in (by omega) (by decide)
    have yq : gA M 2 (gI M 13).toNatClampNeg = nI nt := by rw [h13, nI_clamp (by omega)]; exact y2
    unfold bX12_tells_78
    by_cases g : o = nt + 1
    · rw [g]
      have l1 := mx_le D h (nt + 1) a
      have l2 := cnt_le (alB D h a) (nt + 1)
      have e : mx D h (nt + 1) (a + 1) = max (mx D h (nt + 1) a) (cnt (alB D h a) (nt + 1)) := rfl
      refine eq_f o13 (eq_t (by rw [yq]; exact nI_lt (by omega) (by omega)) ?_)
      unfold fX12_tells_169
      rw [show nI a + 1 = nI (a + 1) from nI_add a 1, e]
      by_cases z : cnt (alB D h a) (nt + 1) ≤ mx D h (nt + 1) a
      · rw [Nat.max_eq_left z]
        exact eq_t (nI_le z (by omega)) rfl
      · rw [Nat.max_eq_right (by omega)]
        exact eq_f (nI_ge (by omega) (by omega)) rfl
    · have k1 : nI o + 1 = nI (o + 1) := nI_add o 1
      have step : cnt (alB D h a) (o + 1) = cnt (alB D h a) o + b01 (alB D h a o) := rfl
      have ih := yml78 (n0 := n0) (x2 := x2) (x4 := x4) (x5 := x5) (k36 := k36) (k58 := k58) h13 hb y2 hnt hD hk ha hB w (o + 1) (by omega) (by omega)
      have go : ∀ u1, u1 = nI (b01 (alB D h a o)) → fX12_tells_146 n0 k36 k58 (yt78 n0 k36 k58 w) x2 (nI D) x4 x5 (nI k) (nI (mx D h (nt + 1) a)) (nI a) (nI o) (nI (cnt (alB D h a) o)) u1 M = k58 x2 (nI D) x4 x5 (nI k) (nI (mx D h (nt + 1) (a + 1))) (nI (a + 1)) M := fun u1 e => by
        unfold fX12_tells_146
        refine eq_e (v' := nI (cnt (alB D h a) (o + 1))) (by rw [e, nI_add, step]) ?_
        rw [k1]
        exact ih
      have no : alB D h a o = false → fX12_tells_145 n0 k36 k58 (yt78 n0 k36 k58 w) x2 (nI D) x4 x5 (nI k) (nI (mx D h (nt + 1) a)) (nI a) (nI o) (nI (cnt (alB D h a) o)) M = k58 x2 (nI D) x4 x5 (nI k) (nI (mx D h (nt + 1) (a + 1))) (nI (a + 1)) M := fun z => by
        unfold fX12_tells_145
        exact go 0 (by rw [z]; rfl)
      have st : ¬ gA M 2 (gI M 13).toNatClampNeg < nI o := by rw [yq]; exact fun u => by have := (nI_ltI (by omega) (by omega)).mp u; omega
      by_cases z1 : D / 2 ^ a % 2 = 1
      · by_cases z2 : D / 2 ^ o % 2 = 1
        · obtain ⟨h1, l1⟩ := hB a ha
          obtain ⟨h2, l2⟩ := hB o (by omega)
          refine eq_f o13 (eq_f st (eq_b (y7has2 D128 (by omega)) (eq_f (show ¬ bI (D / 2 ^ a % 2 = 1) = 0 by rw [bI_t z1]; decide) (eq_b (y7has2 D128 (by omega)) (eq_f (show ¬ bI (D / 2 ^ o % 2 = 1) = 0 by rw [bI_t z2]; decide) ?_)))))
          have ia : (nI (41 * a + k)).toNatClampNeg = 41 * a + k := nI_clamp (by omega)
          have io : (nI (41 * o + k)).toNatClampNeg = 41 * o + k := nI_clamp (by omega)
          simp only [y41Ix, ia, io, h1, h2]
          refine eq_f (nI_in (by omega) (by decide)) (eq_f (nI_in (by omega) (by decide)) ?_)
          by_cases y : h a = h o
          · exact eq_t (congrArg nI y) (go 1 (by rw [show alB D h a o = true from decide_eq_true ⟨z1, z2, y⟩]; rfl))
          · exact eq_f (fun u => y ((nI_eq (by omega) (by omega)).mp u)) (no (decide_eq_false (fun u => y u.2.2)))
        · exact eq_f o13 (eq_f st (eq_b (y7has2 D128 (by omega)) (eq_f (show ¬ bI (D / 2 ^ a % 2 = 1) = 0 by rw [bI_t z1]; decide) (eq_b (y7has2 D128 (by omega)) (eq_t (show bI (D / 2 ^ o % 2 = 1) = 0 from bI_f z2) (no (decide_eq_false (fun u => z2 u.2.1))))))))
      · exact eq_f o13 (eq_f st (eq_b (y7has2 D128 (by omega)) (eq_t (show bI (D / 2 ^ a % 2 = 1) = 0 from bI_f z1) (no (decide_eq_false (fun u => z1 u.1))))))
abbrev yt58 (n0 : Nat) (k36 : Int32 → Int32 → Int32 → Int32 → Int32 → Mem → Option (Int32 × Mem)) : Nat → Int32 → Int32 → Int32 → Int32 → Int32 → Int32 → Int32 → Mem → Option (Int32 × Mem) := loopN (bX12_tells_58 n0 k36) (fun _ _ _ _ _ _ _ _ => none)
theorem yml58 {n0 b D k nt : Nat} {h : Nat → Nat} {x2 x4 x5 : Int32} {k36 : Int32 → Int32 → Int32 → Int32 → Int32 → Mem → Option (Int32 × Mem)} {M : Mem} (hn : 1700 ≤ n0) (h13 : gI M 13 = nI b) (hb : b ≤ 1) (y2 : gA M 2 b = nI nt) (hnt : nt ≤ 6) (hD : D < 2 ^ (nt + 1)) (hk : k ≤ 40) (hB : ∀ v, v ≤ nt → gA M 42 (41 * v + k) = nI (h v) ∧ h v ≤ 23) : ∀ w a, a ≤ nt + 1 → nt + 1 < w + a → yt58 n0 k36 w x2 (nI D) x4 x5 (nI k) (nI (mx D h (nt + 1) a)) (nI a) M = if nI (mx D h (nt + 1) (nt + 1)) < x5 then k36 x2 (nI D) (nI k) (nI (mx D h (nt + 1) (nt + 1))) (nI (k + 1)) M else k36 x2 (nI D) x4 x5 (nI (k + 1)) M
  | 0, a, ha, hw => by omega
  | w + 1, a, ha, hw => by
    show bX12_tells_58 n0 k36 (yt58 n0 k36 w) x2 (nI D) x4 x5 (nI k) (nI (mx D h (nt + 1) a)) (nI a) M = _
    have o13 : ¬ oob (gI M 13) 2 := by rw [h13]; exact nI_in (by omega) (by decide)
    have yq : gA M 2 (gI M 13).toNatClampNeg = nI nt := by rw [h13, nI_clamp (by omega)]; exact y2
    unfold bX12_tells_58
    by_cases g : a = nt + 1
    · rw [g]
      refine eq_f o13 (eq_t (by rw [yq]; exact nI_lt (by omega) (by omega)) ?_)
      unfold fX12_tells_195
      rw [show nI k + 1 = nI (k + 1) from nI_add k 1]
    · refine eq_f o13 (eq_f (by rw [yq]; exact fun u => by have := (nI_ltI (by omega) (by omega)).mp u; omega) ?_)
      have e := yml78 (n0 := n0) (x2 := x2) (x4 := x4) (x5 := x5) (k36 := k36) (k58 := yt58 n0 k36 w) h13 hb y2 hnt hD hk (show a ≤ nt by omega) hB n0 0 (by omega) (by omega)
      exact e.trans (yml58 hn h13 hb y2 hnt hD hk hB w (a + 1) (by omega) (by omega))
abbrev xt69 (n0 : Nat) : Nat → Int32 → Int32 → Int32 → Int32 → Int32 → Int32 → Mem → Option (Int32 × Mem) := loopN (bX11_tells_69 n0) (fun _ _ _ _ _ _ _ => none)
abbrev yt36 (n0 : Nat) : Nat → Int32 → Int32 → Int32 → Int32 → Int32 → Mem → Option (Int32 × Mem) := loopN (bX12_tells_36 n0) (fun _ _ _ _ _ _ => none)
theorem telL {n0 b D nt m : Nat} {hh : Nat → Nat → Nat} {x2 : Int32} {MX MY : Mem} (hn : 1700 ≤ n0) (h13 : gI MY 13 = nI b) (hb : b ≤ 1) (y2 : gA MY 2 b = nI nt) (hnt : nt ≤ 6) (hD : D < 2 ^ (nt + 1)) (hD0 : ¬ D = 0) (hm : m ≤ 9999) (h28 : gA MY 28 0 = nI m) (hX : ∀ v j, v ≤ nt → j ≤ min 40 (9999 - m) → gA MX (83 + v) j = nI (hh v j) ∧ hh v j ≤ 23) (hY : ∀ v j, v ≤ nt → j ≤ min 40 (9999 - m) → gA MY 42 (41 * v + j) = nI (hh v j) ∧ hh v j ≤ 23) : ∀ w k be le, k ≤ min 40 (9999 - m) + 1 → min 40 (9999 - m) + 1 < w + k → be ≤ 40 → le ≤ 7 → ∃ r, xt69 n0 w x2 (nI D) (nI (min 40 (9999 - m))) (nI be) (nI le) (nI k) MX = some (r, MX) ∧ yt36 n0 w x2 (nI D) (nI be) (nI le) (nI k) MY = some (r, MY)
  | 0, k, _, _, hk, hw, _, _ => by omega
  | w + 1, k, be, le, hk, hw, hbe, hle => by
    show ∃ r, bX11_tells_69 n0 (xt69 n0 w) x2 (nI D) (nI (min 40 (9999 - m))) (nI be) (nI le) (nI k) MX = _ ∧ bX12_tells_36 n0 (yt36 n0 w) x2 (nI D) (nI be) (nI le) (nI k) MY = _
    have D128 : D < 128 := Nat.lt_of_lt_of_le hD (p128 (by omega))
    have nm : ¬ nI be = -1 := nI_m1 (by omega)
    unfold bX11_tells_69 bX12_tells_36
    by_cases g : k = min 40 (9999 - m) + 1
    · have a0 := yahF (n0 := n0) (lo := 0) (hi := 40) (k := k) h28 hm (by decide) (by decide) (by omega) (by omega)
      have x0 : nI (min 40 (9999 - m)) < nI k := nI_lt (by omega) (by omega)
      unfold fX12_tells_201
      by_cases z : x2 = 0
      · exact ⟨nI be, eq_t x0 (eq_t z rfl), eq_b a0 (eq_t rfl (eq_f nm (eq_t z rfl)))⟩
      · exact ⟨nI le, eq_t x0 (eq_f z rfl), eq_b a0 (eq_t rfl (eq_f nm (eq_f z rfl)))⟩
    · have a1 := yahT (n0 := n0) (lo := 0) (hi := 40) (k := k) h28 (by omega) (by omega) (by decide) (by omega)
      have e1 := xml (n0 := n0) (h := fun v => hh v k) hn hnt hD (show k ≤ 40 by omega) (fun v hv => hX v k hv (by omega))
      have e2 := yml58 (n0 := n0) (h := fun v => hh v k) (x2 := x2) (x4 := nI be) (x5 := nI le) (k36 := yt36 n0 w) hn h13 hb y2 hnt hD (show k ≤ 40 by omega) (fun v hv => hY v k hv (by omega)) n0 0 (by omega) (by omega)
      have l1 := mx_le D (fun v => hh v k) (nt + 1) (nt + 1)
      have st : ¬ nI (min 40 (9999 - m)) < nI k := fun u => by have := (nI_ltI (by omega) (by omega)).mp u; omega
      have k1 : nI k + 1 = nI (k + 1) := nI_add k 1
      by_cases z : mx D (fun v => hh v k) (nt + 1) (nt + 1) < le
      · obtain ⟨r, r1, r2⟩ := telL (x2 := x2) hn h13 hb y2 hnt hD hD0 hm h28 hX hY w (k + 1) k (mx D (fun v => hh v k) (nt + 1) (nt + 1)) (by omega) (by omega) (by omega) (by omega)
        refine ⟨r, eq_f st (eq_b e1 (eq_f (nI_ge z (by omega)) ?_)), eq_b a1 (eq_f (show ¬ (1 : Int32) = 0 by decide) (eq_f (nI_ne0 (by omega) (by omega)) (Eq.trans e2 ?_)))⟩
        · unfold fX11_tells_103
          rw [k1]; exact r1
        · rw [if_pos (nI_lt z (by omega))]
          exact r2
      · obtain ⟨r, r1, r2⟩ := telL (x2 := x2) hn h13 hb y2 hnt hD hD0 hm h28 hX hY w (k + 1) be le (by omega) (by omega) hbe hle
        refine ⟨r, eq_f st (eq_b e1 (eq_t (nI_le (by omega) (by omega)) ?_)), eq_b a1 (eq_f (show ¬ (1 : Int32) = 0 by decide) (eq_f (nI_ne0 (by omega) (by omega)) (Eq.trans e2 ?_)))⟩
        · unfold fX11_tells_103
          rw [k1]; exact r1
        · rw [if_neg (fun u => by have := (nI_ltI (by omega) (by omega)).mp u; omega)]
          exact r2
theorem cTells {n0 : Nat} {x y : Int32} {MX MY : Mem} (hn : 1700 ≤ n0) (h : R n0 MX MY) : Cal n0 (fX11_tells n0 x y MX) (fX12_tells n0 x y MY) := by
  have h0 := h
  obtain ⟨q, b, T, nr, C, m, pm, s, h⟩ := h
  obtain ⟨h1, h2, h3, h4, _⟩ := id h
  obtain ⟨o1, o2, o3, _⟩ := h1.2.2.2.1.2.1
  have hm := h2.1
  unfold fX11_tells fX12_tells
  rcases isCo h1 x with ⟨c, hc, rfl, e1, e2⟩ | ⟨z, e1, e2⟩
  · rcases yisc (n0 := n0) 2 (x := y) (hi := 1) (by decide) (by decide) with ⟨k, hk, rfl, e⟩ | ⟨z, e⟩
    · obtain ⟨D, X1, Y1, d1, d2, d3, d4, d5, d6, d7⟩ := held2 hn h hc
      have D128 : D < 128 := Nat.lt_of_lt_of_le d1 (p128 (by omega))
      have YT1 := h1.2.2.2.2.1.yf d5 hP28
      have m28 : gA Y1 28 0 = nI m := m28f h4.1.1 d5 hPn
      have xh : ∀ r, (if nI D = 0 then some ((-1 : Int32), X1) else bnd (imin (40 : Int32) ((9999 : Int32) - (gI X1 1281))) fun x4_50 => (fX5_mostLeft n0 (nI D) (0 : Int32) X1).bind fun z61 => fX11_tells_69 n0 (nI k) (nI D) x4_50 (0 : Int32) z61.1 (1 : Int32) z61.2) = r → ((fX9_isCorner n0 (gR MX 1) (nI c) MX).bind fun z5 => if z5.1 = 0 then some ((-1 : Int32), z5.2) else if nI k < 0 then some ((-1 : Int32), z5.2) else if nI k ≤ (1 : Int32) then (fX11_findHeld n0 (nI c) z5.2).bind fun z24 => if z24.1 = 0 then some ((-1 : Int32), z24.2) else bnd (imin (40 : Int32) ((9999 : Int32) - (gI z24.2 1281))) fun x4_50 => (fX5_mostLeft n0 z24.1 (0 : Int32) z24.2).bind fun z61 => fX11_tells_69 n0 (nI k) z24.1 x4_50 (0 : Int32) z61.1 (1 : Int32) z61.2 else some ((-1 : Int32), z5.2)) = r := fun r hr => eq_b e1 (eq_f (show ¬ (1 : Int32) = 0 by decide) (eq_f (nI_nn (by omega)) (eq_t (nI_le (b := 1) (by omega) (by decide)) (eq_b d2 hr))))
      have yh : ∀ r, fX12_tells_36 n0 (nI k) (nI D) (-1) 100000000 0 Y1 = r → ((fX12_isCorner n0 (nI c) MY).bind fun z2 => if z2.1 = 0 then some ((-1 : Int32), z2.2) else (fX12_is n0 (nI k) (0 : Int32) (1 : Int32) z2.2).bind fun z11 => if z11.1 = 0 then some ((-1 : Int32), z11.2) else (fX12_heldBits n0 (nI c) z11.2).bind fun z21 => fX12_tells_36 n0 (nI k) z21.1 (-1 : Int32) (100000000 : Int32) (0 : Int32) z21.2) = r := fun r hr => eq_b e2 (eq_f (show ¬ (1 : Int32) = 0 by decide) (eq_b (e MY) (eq_f (show ¬ (1 : Int32) = 0 by decide) (eq_b d3 hr))))
      obtain ⟨w, rfl⟩ : ∃ w, n0 = w + 1 := ⟨n0 - 1, by omega⟩
      have a1 := yahT (n0 := w + 1) (lo := 0) (hi := 40) (k := 0) m28 (by omega) (by omega) (by decide) (by omega)
      by_cases g : D = 0
      · refine Cal.scr (r := -1) h (xh _ (eq_t (by rw [g]; rfl) rfl)) (yh _ ?_) (hAsc d4) (hPsc d5)
        show bX12_tells_36 (w + 1) (yt36 (w + 1) w) (nI k) (nI D) (-1) 100000000 0 Y1 = _
        unfold bX12_tells_36
        refine eq_b a1 (eq_f (show ¬ (1 : Int32) = 0 by decide) (eq_t (by rw [g]; rfl) ?_))
        unfold fX12_tells_201
        exact eq_t rfl rfl
      · have hX : ∀ v j, v ≤ T.nt → j ≤ min 40 (9999 - m) → gA X1 (83 + v) j = nI (hby T c m v j) ∧ hby T c m v j ≤ 23 := fun v j hv hj => ⟨d6 g v j hv hj, hrs_le h1.2.2.2.2.1 hc ⟨thI_ok hv, Nat.zero_le _⟩ (by omega)⟩
        have hYY : ∀ v j, v ≤ T.nt → j ≤ min 40 (9999 - m) → gA Y1 42 (41 * v + j) = nI (hby T c m v j) ∧ hby T c m v j ≤ 23 := fun v j hv hj => ⟨d7 v j hv hj, (hX v j hv hj).2⟩
        have e3 := xml (n0 := w + 1) (h := fun v => hby T c m v 0) hn o1 d1 (show 0 ≤ 40 by decide) (fun v hv => hX v 0 hv (by omega))
        have e4 := yml58 (n0 := w + 1) (h := fun v => hby T c m v 0) (x2 := nI k) (x4 := -1) (x5 := 100000000) (k36 := yt36 (w + 1) w) hn YT1.2.2.2.1 YT1.2.2.1 YT1.2.2.2.2.1 o1 d1 (show 0 ≤ 40 by decide) (fun v hv => hYY v 0 hv (by omega)) (w + 1) 0 (by omega) (by omega)
        have l1 := mx_le D (fun v => hby T c m v 0) (T.nt + 1) (T.nt + 1)
        obtain ⟨r, r1, r2⟩ := telL (n0 := w + 1) (b := b) (x2 := nI k) (hh := hby T c m) hn YT1.2.2.2.1 YT1.2.2.1 YT1.2.2.2.2.1 o1 d1 g hm m28 hX hYY w 1 0 (mx D (fun v => hby T c m v 0) (T.nt + 1) (T.nt + 1)) (by omega) (by omega) (by omega) (by omega)
        obtain ⟨r', r3, r4⟩ := telL (n0 := w + 1) (b := b) (x2 := nI k) (hh := hby T c m) hn YT1.2.2.2.1 YT1.2.2.1 YT1.2.2.2.2.1 o1 d1 g hm m28 hX hYY (w + 1) 1 0 (mx D (fun v => hby T c m v 0) (T.nt + 1) (T.nt + 1)) (by omega) (by omega) (by omega) (by omega)
        have i1281 : gI X1 1281 = nI m := (d4.2.2.2.2 1281 (by decide)).trans h3.2.2.1
        -- the same answer with one more or less of fuel
        have mono : ∀ w' k' be le, k' ≤ min 40 (9999 - m) + 1 → min 40 (9999 - m) + 1 < w' + k' → xt69 (w + 1) (w' + 1) (nI k) (nI D) (nI (min 40 (9999 - m))) (nI be) (nI le) (nI k') X1 = xt69 (w + 1) w' (nI k) (nI D) (nI (min 40 (9999 - m))) (nI be) (nI le) (nI k') X1 := fun w' => by
          induction w' with
          | zero => intro k' be le h1' h2'; omega
          | succ w' ih =>
            intro k' be le h1' h2'
            show bX11_tells_69 (w + 1) (xt69 (w + 1) (w' + 1)) (nI k) (nI D) (nI (min 40 (9999 - m))) (nI be) (nI le) (nI k') X1 = bX11_tells_69 (w + 1) (xt69 (w + 1) w') (nI k) (nI D) (nI (min 40 (9999 - m))) (nI be) (nI le) (nI k') X1
            by_cases z : k' = min 40 (9999 - m) + 1
            · unfold bX11_tells_69
              rw [if_pos (nI_lt (by omega) (by omega)), if_pos (nI_lt (by omega) (by omega))]
            · have e5 := xml (n0 := w + 1) (h := fun v => hby T c m v k') hn o1 d1 (show k' ≤ 40 by omega) (fun v hv => hX v k' hv (by omega))
              have k1 : nI k' + 1 = nI (k' + 1) := nI_add k' 1
              unfold bX11_tells_69
              rw [e5]
              show (if _ then _ else (if nI le ≤ nI _ then fX11_tells_103 _ _ _ _ _ _ _ _ _ else fX11_tells_103 _ _ _ _ _ _ _ _ _)) = (if _ then _ else (if nI le ≤ nI _ then fX11_tells_103 _ _ _ _ _ _ _ _ _ else fX11_tells_103 _ _ _ _ _ _ _ _ _))
              unfold fX11_tells_103
              rw [k1, ih (k' + 1) be le (by omega) (by omega), ih (k' + 1) k' _ (by omega) (by omega)]
        have rr : r' = r := by
          have := (mono w 1 0 (mx D (fun v => hby T c m v 0) (T.nt + 1) (T.nt + 1)) (by omega) (by omega)).symm.trans r3
          exact ((Prod.mk.inj (Option.some.inj (r1.symm.trans this))).1).symm
        refine Cal.scr (r := r) h (xh _ (eq_f (nI_ne0 (by omega) (by omega)) (eq_e (v' := nI (min 40 (9999 - m))) ?_ (eq_b e3 ?_)))) (yh _ ?_) (hAsc d4) (hPsc d5)
        · rw [i1281, show (9999 : Int32) - nI m = nI (9999 - m) from nI_subN hm, show (40 : Int32) = nI 40 from rfl, imin_nI (by decide) (by omega)]
        · rw [← rr]; exact r3
        · show bX12_tells_36 (w + 1) (yt36 (w + 1) w) (nI k) (nI D) (-1) 100000000 0 Y1 = _
          unfold bX12_tells_36
          refine eq_b a1 (eq_f (show ¬ (1 : Int32) = 0 by decide) (eq_f (nI_ne0 (by omega) (by omega)) (Eq.trans e4 ?_)))
          exact eq_t (nI_lt (b := 100000000) (by omega) (by decide)) r2
    · refine Cal.same (r := -1) h0 (eq_b e1 (eq_f (show ¬ (1 : Int32) = 0 by decide) ?_)) (eq_b e2 (eq_f (show ¬ (1 : Int32) = 0 by decide) (eq_b (e MY) (eq_t rfl rfl))))
      by_cases g2 : y < 0
      · exact eq_t g2 rfl
      · refine eq_f g2 (eq_f (fun u => ?_) rfl)
        have z2 := z.resolve_left g2
        rw [i_le] at z2 u
        have a1 : (nI 2).toInt = 2 := rfl
        have a2 : (1 : Int32).toInt = 1 := rfl
        omega
  · exact Cal.same (r := -1) h0 (eq_b e1 (eq_t rfl rfl)) (eq_b e2 (eq_t rfl rfl))
end
section
/-! LETTERS OF NAMES ON BOTH SIDES -/
theorem e27_div {f : Nat → Nat} {j : Nat} : ∀ r, (∀ i, i < j + r → f i ≤ 26) → e27 f (j + r) / 27 ^ r = e27 f j
  | 0, _ => Nat.div_one _
  | r + 1, h => by
    have e : e27 f (j + (r + 1)) = 27 * e27 f (j + r) + f (j + r) := rfl
    have l := h (j + r) (by omega)
    rw [e, Nat.pow_succ, Nat.mul_comm (27 ^ r) 27, ← Nat.div_div_eq_div_mul, show (27 * e27 f (j + r) + f (j + r)) / 27 = e27 f (j + r) by omega]
    exact e27_div r (fun i hi => h i (by omega))
theorem e256_div {f : Nat → Nat} {j : Nat} : ∀ r, (∀ i, i < j + r → f i ≤ 26) → e256 f (j + r) / 256 ^ r = e256 f j
  | 0, _ => Nat.div_one _
  | r + 1, h => by
    have e : e256 f (j + (r + 1)) = 256 * e256 f (j + r) + (f (j + r) + 96) := rfl
    have l := h (j + r) (by omega)
    rw [e, Nat.pow_succ, Nat.mul_comm (256 ^ r) 256, ← Nat.div_div_eq_div_mul, show (256 * e256 f (j + r) + (f (j + r) + 96)) / 256 = e256 f (j + r) by omega]
    exact e256_div r (fun i hi => h i (by omega))
/-- letter k of a word of n letters -/
def ltr (f : Nat → Nat) (n k : Nat) : Nat := if k < n then f k else 0
theorem ltr_v {f : Nat → Nat} {n k : Nat} (hn : n ≤ 6) (hk : k ≤ 5) (hf : ∀ i, i < n → 1 ≤ f i ∧ f i ≤ 26) : e27 f n * 27 ^ (6 - n) / 27 ^ (5 - k) % 27 = ltr f n k := by
  unfold ltr
  by_cases g : k < n
  · rw [if_pos g, show 5 - k = (6 - n) + (n - 1 - k) by omega, Nat.pow_add, ← Nat.div_div_eq_div_mul, Nat.mul_div_cancel _ (Nat.pow_pos (by decide))]
    have e := e27_div (f := f) (j := k + 1) (n - 1 - k) (fun i hi => (hf i (by omega)).2)
    rw [show k + 1 + (n - 1 - k) = n by omega] at e
    rw [e]
    have e2 : e27 f (k + 1) = 27 * e27 f k + f k := rfl
    have l := (hf k g).2
    rw [e2]
    omega
  · rw [if_neg g, show 6 - n = (5 - k) + (k + 1 - n) by omega, Nat.pow_add, Nat.mul_comm (27 ^ (5 - k)), ← Nat.mul_assoc, Nat.mul_div_cancel _ (Nat.pow_pos (by decide)), show k + 1 - n = (k - n) + 1 by omega, Nat.pow_succ, ← Nat.mul_assoc]
    exact Nat.mul_mod_left _ _
abbrev xlL (n0 : Nat) : Nat → Int32 → Int32 → Int32 → Mem → Option (Int32 × Mem) := loopN (bX8_letterOf_4 n0) (fun _ _ _ _ => none)
theorem xlet4 {n0 k : Nat} {M : Mem} (hk : k ≤ 5) : ∀ w r v, r < w → v < 2 ^ 31 → k + r ≤ 5 → xlL n0 w (nI k) (nI v) (nI (k + r)) M = some (nI (v / 27 ^ r % 27), M)
  | 0, r, v, h, _, _ => by omega
  | w + 1, r, v, h, hv, h5 => by
    show bX8_letterOf_4 n0 (xlL n0 w) (nI k) (nI v) (nI (k + r)) M = _
    unfold bX8_letterOf_4
    by_cases g : r = 0
    · subst g
      refine eq_t (by rw [Nat.add_zero]; exact Int32.le_refl _) (eq_f (by decide) ?_)
      rw [show (27 : Int32) = nI 27 from rfl, rem_nI (by omega) (by decide), Nat.pow_zero, Nat.div_one]
    · obtain ⟨r', rfl⟩ : ∃ r', r = r' + 1 := ⟨r - 1, by omega⟩
      refine eq_f (nI_ge (by omega) (by omega)) (eq_f (by decide) (eq_e (v' := nI (v / 27)) (by rw [show (27 : Int32) = nI 27 from rfl, nI_div (by omega) (by decide)]) ?_))
      rw [show k + (r' + 1) = (k + r') + 1 by omega, nIm1]
      have e := xlet4 (n0 := n0) (M := M) hk w r' (v / 27) (by omega) (by omega) (by omega)
      rw [Nat.div_div_eq_div_mul, Nat.mul_comm, ← Nat.pow_succ] at e
      exact e
theorem xletter {n0 k v : Nat} {M : Mem} (hn : 1700 ≤ n0) (hk : k ≤ 5) (hv : v < 2 ^ 31) : fX8_letterOf n0 (nI v) (nI k) M = some (nI (v / 27 ^ (5 - k) % 27), M) := by
  have e := xlet4 (n0 := n0) (M := M) hk n0 (5 - k) v (by omega) hv (by omega)
  rw [show k + (5 - k) = 5 by omega] at e
  exact e
theorem lshr {a d : Nat} {D : Int64} (hD : (D.toBitVec.smod 64).toNat = d) (h : a < 2 ^ 62) : lN a >>> D = lN (a / 2 ^ d) := by
  have hd : a / 2 ^ d ≤ a := Nat.div_le_self _ _
  apply Int64.toInt_inj.mp
  have e : (lN a >>> D).toInt = (lN a).toInt >>> d := by
    rw [← hD]
    exact BitVec.toInt_sshiftRight ..
  rw [e, Int.shiftRight_eq_div_pow, pk_lT (by omega), pk_lT (by omega)]
  rfl
theorem sm8 : ∀ r, r < 6 → ((((nI (8 * r)).toInt64 &&& 63) : Int64).toBitVec.smod 64).toNat = 8 * r := by decide +kernel
theorem e256_pos {f : Nat → Nat} {j : Nat} (hj : 0 < j) : 0 < e256 f j := by
  obtain ⟨i, rfl⟩ : ∃ i, j = i + 1 := ⟨j - 1, by omega⟩
  have : e256 f (i + 1) = 256 * e256 f i + (f i + 96) := rfl
  omega
abbrev yltL (n0 : Nat) : Nat → Int32 → Int64 → Int32 → Int64 → Mem → Option (Int32 × Mem) := loopN (bX12_letter_58 n0) (fun _ _ _ _ _ => none)
theorem ylet58 {n0 k n : Nat} {f : Nat → Nat} {M : Mem} (hn6 : n ≤ 6) (hk : k ≤ 5) (hf : ∀ i, i < n → 1 ≤ f i ∧ f i ≤ 26) : ∀ w j, j ≤ n → j < w → yltL n0 w (nI k) (lN (e256 f n)) (nI (n - j)) (lN (e256 f j)) M = some (nI (ltr f n k), M)
  | 0, j, _, h => by omega
  | w + 1, j, hj, h => by
    show bX12_letter_58 n0 (yltL n0 w) (nI k) (lN (e256 f n)) (nI (n - j)) (lN (e256 f j)) M = _
    have bd : ∀ i, i ≤ n → e256 f i < 2 ^ 48 := fun i hi => by
      have e := e256_lt (f := f) (n := i) (fun q hq => (hf q (by omega)).2)
      have : 256 ^ i ≤ 256 ^ 6 := Nat.pow_le_pow_right (by decide) (by omega)
      have : (256 : Nat) ^ 6 = 2 ^ 48 := by decide
      omega
    have bj := bd j hj
    have bn := bd n (Nat.le_refl _)
    unfold bX12_letter_58
    by_cases g : j = 0
    · subst g
      refine eq_t (by rw [show lN (e256 f 0) = zL 0 from rfl, show (0 : Int64) = zL 0 from rfl]; decide) ?_
      rw [Nat.sub_zero]
      unfold ltr
      by_cases z : k < n
      · rw [if_pos z]
        refine eq_t (nI_lt z (by omega)) ?_
        have e1 : (8 : Int32) * (nI n - 1 - nI k) = nI (8 * (n - 1 - k)) := by
          rw [show nI n - 1 = nI (n - 1) by rw [show n = (n - 1) + 1 by omega, nIs]; rfl, nI_subN (by omega), show (8 : Int32) = nI 8 from rfl, nI_mul]
        have e2 := e256_div (f := f) (j := k + 1) (n - 1 - k) (fun i hi => (hf i (by omega)).2)
        rw [show k + 1 + (n - 1 - k) = n by omega] at e2
        have e3 : e256 f (k + 1) = 256 * e256 f k + (f k + 96) := rfl
        obtain ⟨l1, l2⟩ := hf k z
        rw [e1, lshr (sm8 (n - 1 - k) (by omega)) (by omega), show 2 ^ (8 * (n - 1 - k)) = 256 ^ (n - 1 - k) by rw [Nat.pow_mul], e2, show (255 : Int64) = lN 255 from rfl, lAnd, show 255 = 2 ^ 8 - 1 from rfl, Nat.and_two_pow_sub_one_eq_mod, lN_i, e3, show (256 * e256 f k + (f k + 96)) % 2 ^ 8 = (f k - 1) + 97 by omega, show (97 : Int32) = nI 97 from rfl, nI_subN (by omega), Nat.add_sub_cancel, show nI (f k - 1) + 1 = nI (f k - 1 + 1) from nI_add _ 1, show f k - 1 + 1 = f k by omega]
      · rw [if_neg z]
        exact eq_f (fun u => z ((nI_ltI (by omega) (by omega)).mp u)) rfl
    · obtain ⟨i, rfl⟩ : ∃ i, j = i + 1 := ⟨j - 1, by omega⟩
      have ps := e256_pos (f := f) (j := i + 1) (by omega)
      have e3 : e256 f (i + 1) = 256 * e256 f i + (f i + 96) := rfl
      obtain ⟨l1, l2⟩ := hf i (by omega)
      refine eq_f ?_ (eq_e (v' := lN (e256 f i)) ?_ ?_)
      · have lp : (0 : Int64) < lN (e256 f (i + 1)) := (pk_lLT (a := 0) (b := e256 f (i + 1)) (by decide) (by omega)).mpr ps
        unfold lg_cmp
        rw [if_pos lp]
        decide
      · rw [lshr (d := 8) (by decide) (by omega), e3]
        congr 1
        omega
      · rw [show nI (n - (i + 1)) + 1 = nI (n - (i + 1) + 1) from nI_add _ 1, show n - (i + 1) + 1 = n - i by omega]
        exact ylet58 hn6 hk hf w i (by omega) (by omega)
theorem nm2 {n0 v w k : Nat} {MX MY : Mem} (hn : 1700 ≤ n0) (hk : k ≤ 5) (h : WR v w) : ∃ r, fX8_letterOf n0 (nI v) (nI k) MX = some (r, MX) ∧ fX12_letter_58 n0 (nI k) (lN w) 0 (lN w) MY = some (r, MY) := by
  have hv := h.v_lt
  obtain ⟨f, n, n1, n6, hf, rfl, rfl⟩ := h
  refine ⟨nI (ltr f n k), ?_, ?_⟩
  · rw [xletter hn hk hv, ltr_v n6 hk hf]
  · have e := ylet58 (n0 := n0) (k := k) (M := MY) n6 hk hf n0 n (Nat.le_refl _) (by omega)
    rw [Nat.sub_self] at e
    exact e
theorem cLetter {n0 : Nat} {x y z : Int32} {MX MY : Mem} (hn : 1700 ≤ n0) (h : R n0 MX MY) : Cal n0 (fX11_letter n0 x y z MX) (fX12_letter n0 x y z MY) := by
  have h0 := h
  obtain ⟨q, b, T, nr, C, m, pm, s, h⟩ := h
  obtain ⟨h1, h2, h3, h4, _⟩ := id h
  obtain ⟨o1, o2, o3, _⟩ := h1.2.2.2.1.2.1
  have hb := h1.2.2.2.2.1.2.2.1
  have h13 := h1.2.2.2.2.1.2.2.2.1
  have cb : (nI b).toNatClampNeg = b := nI_clamp (by omega)
  have ob : ¬ oob (nI b) 2 := nI_in (by omega) (by decide)
  obtain ⟨⟨t1, t2, t3⟩, ⟨c1, c2, c3⟩, ⟨d1, d2, d3⟩⟩ := h1.2.2.2.2.2.1.1
  unfold fX11_letter fX12_letter
  -- the letter's number
  rcases yisc (n0 := n0) 6 (x := z) (hi := 5) (by decide) (by decide) with ⟨k, hk, rfl, ek⟩ | ⟨zk, ek⟩
  · have xk : ∀ {α : Type} {a c : α}, (if nI k < 0 then a else if nI k < (6 : Int32) then c else a) = c := fun {α a c} => eq_f (nI_nn (by omega)) (eq_t (nI_lt (b := 6) hk (by decide)) rfl)
    rw [xk]
    rcases yisc (n0 := n0) 3 (x := x) (hi := 2) (by decide) (by decide) with ⟨sx, hs, rfl, es⟩ | ⟨zs, es⟩
    · have two : ∀ {n off arr cap : Nat} {fi : Nat → Int64} {X Y : Option (Int32 × Mem)}, n ≤ 6 → NmS cap n (gA MX (q + off)) fi → fX12_manyOf n0 (gI MY 13) (nI sx) MY = some (nI n, MY) → (∀ i, i < n → fX12_nameOf n0 (gI MY 13) (nI sx) (nI i) MY = some (fi i, MY)) → (∀ i r, i < n → y = nI i → fX8_letterOf n0 (gA MX (q + off) i) (nI k) MX = some (r, MX) → X = some (r, MX)) → (y < 0 ∨ nI n ≤ y → X = some (-1, MX)) → Y = ((fX12_is n0 (nI sx) (0 : Int32) (2 : Int32) MY).bind fun z3 => if z3.1 = 0 then some ((-1 : Int32), z3.2) else (fX12_manyOf n0 (gI z3.2 13) (nI sx) z3.2).bind fun z17 => (fX12_is n0 y (0 : Int32) (z17.1 - (1 : Int32)) z17.2).bind fun z22 => if z22.1 = 0 then some ((-1 : Int32), z22.2) else (fX12_is n0 (nI k) (0 : Int32) (5 : Int32) z22.2).bind fun z31 => if z31.1 = 0 then some ((-1 : Int32), z31.2) else (fX12_nameOf n0 (gI z31.2 13) (nI sx) y z31.2).bind fun z46 => fX12_letter_58 n0 (nI k) z46.1 (0 : Int32) z46.1 z46.2) → Cal n0 X Y := fun {n off arr cap fi X Y} hn6 hN hM hNm hX hX0 hY => by
        rcases yis (n0 := n0) (n := n) (x := y) (hi := nI n - 1) (by omega) rfl with ⟨i, hi, rfl, ei⟩ | ⟨zi, ei⟩
        · obtain ⟨v, w, hw, e1, e2⟩ := hN.2 i hi
          obtain ⟨r, r1, r2⟩ := nm2 (n0 := n0) (k := k) (MX := MX) (MY := MY) hn (by omega) hw
          refine Cal.same (r := r) h0 (hX i r hi rfl (by rw [e1]; exact r1)) (hY.trans (eq_b (es MY) (eq_f (show ¬ (1 : Int32) = 0 by decide) (eq_b hM (eq_b (ei MY) (eq_f (show ¬ (1 : Int32) = 0 by decide) (eq_b (ek MY) (eq_f (show ¬ (1 : Int32) = 0 by decide) (eq_b (hNm i hi) ?_)))))))))
          show fX12_letter_58 n0 (nI k) (fi i) 0 (fi i) MY = _
          rw [e2]
          exact r2
        · exact Cal.same (r := -1) h0 (hX0 zi) (hY.trans (eq_b (es MY) (eq_f (show ¬ (1 : Int32) = 0 by decide) (eq_b hM (eq_b (ei MY) (eq_t rfl rfl))))))
      rcases (show sx = 0 ∨ sx = 1 ∨ sx = 2 by omega) with rfl | rfl | rfl
      · refine two (n := T.nt) (off := 1) (arr := 2) (cap := 6) (fi := fun i => gB MY 18 (6 * b + i)) o1 t3 ?_ (fun i hi => ?_) (fun i r hi hy hr => ?_) (fun zi => ?_) rfl
        · unfold fX12_manyOf
          rw [h13]
          exact eq_t rfl (eq_f ob (by rw [cb, t2]))
        · unfold fX12_nameOf
          rw [h13, y6Ix]
          exact eq_t rfl (eq_f (nI_in (by omega) (by decide)) (by rw [nI_clamp (by omega)]))
        · subst hy
          refine eq_t rfl (eq_b (z := (1, MX)) (by rw [h1.2.1]; exact xTht t1 o1 hi) (eq_f (show ¬ (1 : Int32) = 0 by decide) (eq_f (nI_in (by omega) (by decide)) (eq_b (z := (r, MX)) ?_ rfl))))
          show fX8_letterOf n0 (gA MX (gR MX 1 + 1) (nI i).toNatClampNeg) (nI k) MX = _
          rw [h1.2.1, nI_clamp (by omega)]
          exact hr
        · exact eq_t rfl (eq_b (z := (0, MX)) (by rw [h1.2.1]; exact xThf t1 zi) (eq_t rfl rfl))
      · refine two (n := T.nc) (off := 4) (arr := 5) (cap := 5) (fi := fun i => gB MY 19 (5 * b + i)) (by omega) c3 ?_ (fun i hi => ?_) (fun i r hi hy hr => ?_) (fun zi => ?_) rfl
        · unfold fX12_manyOf
          rw [h13]
          exact eq_f (by decide) (eq_t rfl (eq_f ob (by rw [cb, c2])))
        · unfold fX12_nameOf
          rw [h13, yIx]
          exact eq_f (by decide) (eq_t rfl (eq_f (nI_in (by omega) (by decide)) (by rw [nI_clamp (by omega)])))
        · subst hy
          refine eq_f (by decide) (eq_t rfl (eq_b (z := (1, MX)) (by rw [h1.2.1]; exact xCot c1 (by omega) hi) (eq_f (show ¬ (1 : Int32) = 0 by decide) (eq_f (nI_in (by omega) (by decide)) (eq_b (z := (r, MX)) ?_ rfl)))))
          show fX8_letterOf n0 (gA MX (gR MX 1 + 4) (nI i).toNatClampNeg) (nI k) MX = _
          rw [h1.2.1, nI_clamp (by omega)]
          exact hr
        · exact eq_f (by decide) (eq_t rfl (eq_b (z := (0, MX)) (by rw [h1.2.1]; exact xCof c1 zi) (eq_t rfl rfl)))
      · refine two (n := T.nd) (off := 9) (arr := 10) (cap := 6) (fi := fun i => gB MY 20 (6 * b + i)) o3 d3 ?_ (fun i hi => ?_) (fun i r hi hy hr => ?_) (fun zi => ?_) rfl
        · unfold fX12_manyOf
          rw [h13]
          exact eq_f (by decide) (eq_f (by decide) (eq_f ob (by rw [cb, d2])))
        · unfold fX12_nameOf
          rw [h13, y6Ix]
          exact eq_f (by decide) (eq_f (by decide) (eq_f (nI_in (by omega) (by decide)) (by rw [nI_clamp (by omega)])))
        · subst hy
          refine eq_f (by decide) (eq_f (by decide) (eq_t rfl (eq_b (z := (1, MX)) (by rw [h1.2.1]; exact xDot d1 o3 hi) (eq_f (show ¬ (1 : Int32) = 0 by decide) (eq_f (nI_in (by omega) (by decide)) (eq_b (z := (r, MX)) ?_ rfl))))))
          show fX8_letterOf n0 (gA MX (gR MX 1 + 9) (nI i).toNatClampNeg) (nI k) MX = _
          rw [h1.2.1, nI_clamp (by omega)]
          exact hr
        · exact eq_f (by decide) (eq_f (by decide) (eq_t rfl (eq_b (z := (0, MX)) (by rw [h1.2.1]; exact xDof d1 zi) (eq_t rfl rfl))))
    · refine Cal.same (r := -1) h0 ?_ (eq_b (es MY) (eq_t rfl rfl))
      refine eq_f ?_ (eq_f ?_ (eq_f ?_ rfl))
      · rintro rfl; exact absurd zs (by decide)
      · rintro rfl; exact absurd zs (by decide)
      · rintro rfl; exact absurd zs (by decide)
  · have xk : ∀ {α : Type} {a c : α}, (if z < 0 then a else if z < (6 : Int32) then c else a) = a := fun {α a c} => by
      by_cases g : z < 0
      · exact eq_t g rfl
      · refine eq_f g (eq_f (fun u => ?_) rfl)
        have := zk.resolve_left g
        rw [i_le] at this
        rw [i_lt] at u
        have a1 : (nI 6).toInt = 6 := rfl
        have a2 : (6 : Int32).toInt = 6 := rfl
        omega
    refine Cal.same (r := -1) h0 xk ?_
    rcases yisc (n0 := n0) 3 (x := x) (hi := 2) (by decide) (by decide) with ⟨sx, hs, rfl, es⟩ | ⟨zs, es⟩
    · refine eq_b (es MY) (eq_f (show ¬ (1 : Int32) = 0 by decide) ?_)
      obtain ⟨n, hn6, hM⟩ : ∃ n, n ≤ 6 ∧ fX12_manyOf n0 (gI MY 13) (nI sx) MY = some (nI n, MY) := by
        unfold fX12_manyOf
        rw [h13]
        rcases (show sx = 0 ∨ sx = 1 ∨ sx = 2 by omega) with rfl | rfl | rfl
        · exact ⟨T.nt, o1, eq_t rfl (eq_f ob (by rw [cb, t2]))⟩
        · exact ⟨T.nc, by omega, eq_f (by decide) (eq_t rfl (eq_f ob (by rw [cb, c2])))⟩
        · exact ⟨T.nd, o3, eq_f (by decide) (eq_f (by decide) (eq_f ob (by rw [cb, d2])))⟩
      refine eq_b hM ?_
      rcases yis (n0 := n0) (n := n) (x := y) (hi := nI n - 1) (by omega) rfl with ⟨i, hi, rfl, ei⟩ | ⟨zi, ei⟩
      · exact eq_b (ei MY) (eq_f (show ¬ (1 : Int32) = 0 by decide) (eq_b (ek MY) (eq_t rfl rfl)))
      · exact eq_b (ei MY) (eq_t rfl rfl)
    · exact eq_b (es MY) (eq_t rfl rfl)
end
section
/-! WAYS AND WALKS COME TO AN END -/
theorem lpC {σ ρ : Type} {L : Nat → Nat → σ → Option ρ} {F : σ → Option ρ} {n : Nat} {I : σ → Prop} (hs : ∀ w k s, k < n → I s → ∃ s', L (w + 1) k s = L w (k + 1) s' ∧ I s') (he : ∀ w s, I s → ∃ s', L (w + 1) n s = F s' ∧ I s') : ∀ w k s, k ≤ n → n < w + k → I s → ∃ s', L w k s = F s' ∧ I s'
  | 0, k, s, hk, hw, _ => by omega
  | w + 1, k, s, hk, hw, hI => by
    by_cases g : k = n
    · rw [g]; exact he w s hI
    · obtain ⟨s', e, h'⟩ := hs w k s (by omega) hI
      rw [e]
      exact lpC hs he w (k + 1) s' (by omega) (by omega) h'
theorem lpG {σ ρ : Type} {L : Nat → Nat → σ → Option ρ} {n : Nat} {I : σ → Prop} {Q : ρ → Prop} (hs : ∀ w k s, k < n → I s → (okP (L (w + 1) k s) Q ∨ ∃ s', L (w + 1) k s = L w (k + 1) s' ∧ I s')) (he : ∀ w s, I s → okP (L (w + 1) n s) Q) : ∀ w k s, k ≤ n → n < w + k → I s → okP (L w k s) Q
  | 0, k, s, hk, hw, _ => by omega
  | w + 1, k, s, hk, hw, hI => by
    by_cases g : k = n
    · rw [g]; exact he w s hI
    · rcases hs w k s (by omega) hI with h | ⟨s', e, h'⟩
      · exact h
      · rw [e]
        exact lpG hs he w (k + 1) s' (by omega) (by omega) h'
def CalN (n0 : Nat) (f g : Option (Int32 × Mem)) : Prop := ∃ r r' MX' MY', f = some (r, MX') ∧ g = some (r', MY') ∧ R n0 MX' MY'
theorem Cal.n {n0 : Nat} {f g : Option (Int32 × Mem)} (h : Cal n0 f g) : CalN n0 f g := by
  obtain ⟨r, MX', MY', h1, h2, h3⟩ := h
  exact ⟨r, r, MX', MY', h1, h2, h3⟩
theorem CalN.scr {n0 q b : Nat} {T : TP} {nr C m : Nat} {pm : Nat → Int32 × Nat} {s : Nat × List (Nat × Nat)} {MX MY : Mem} {f g : Option (Int32 × Mem)} (h : RR n0 q b T nr C m pm s MX MY) (e1 : okP f (fun z => XF scA MX z.2)) (e2 : okP g (fun z => YF scP MY z.2)) : CalN n0 f g := by
  obtain ⟨⟨r, X⟩, a1, a2⟩ := e1
  obtain ⟨⟨r', Y⟩, b1, b2⟩ := e2
  exact ⟨r, r', X, Y, a1, b1, q, b, T, nr, C, m, pm, s, h.scr a2 b2⟩
def XRd (q nc nr : Nat) (M : Mem) : Prop := gI M (128 * q + 8) = nI nr ∧ nr ≤ 10 ∧ ∀ k, k < nr → ∃ a c v, a < nc ∧ c < nc ∧ 1 ≤ v ∧ v ≤ 30 ∧ gA M (q + 6) k = nI a ∧ gA M (q + 7) k = nI c ∧ gA M (q + 8) k = nI v
theorem XRd.tw {q nc nr : Nat} {M M' : Mem} (h : XRd q nc nr M) (t : xTw q M M') : XRd q nc nr M' := ⟨(t.1 _ (by omega) (by omega)).trans h.1, h.2.1, fun k hk => by
  rw [t.2 _ (by omega) (by omega), t.2 _ (by omega) (by omega), t.2 _ (by omega) (by omega)]
  exact h.2.2 k hk⟩
theorem RT.rd {n0 q b : Nat} {T : TP} {nr C : Nat} {MX MY : Mem} (h : RT n0 q b T nr C MX MY) : XRd q T.nc nr MX := by
  obtain ⟨c1, c2, c3⟩ := h.2.2.2.2.2.1.2.2.2.2.1
  refine ⟨c1, c3.1, fun k hk => ?_⟩
  obtain ⟨a, c, v, a1, a2, _, a4, a5, a6, a7, a8⟩ := c3.2.1 k hk
  exact ⟨a, c, v, a1, a2, a4, a5, a6, a7, a8⟩
theorem scA31 : ∀ a, scA a → a < 31 ∨ 63 ≤ a := fun a z => by unfold scA at z; omega
/-- distances are numbers -/
def D19 (M : Mem) : Prop := ∀ c, c < 5 → ∃ d, d ≤ 1000000 ∧ gA M 19 c = nI d
def WyI (M0 M : Mem) : Prop := XF scA M0 M ∧ D19 M
theorem xshort {n0 a c v : Nat} {M0 M : Mem} (ha : a < 5) (hc : c < 5) (hv : v ≤ 30) (h : WyI M0 M) : ∃ M', fX10_shorten n0 (nI a) (nI c) (nI v) M = some M' ∧ WyI M0 M' := by
  have ca : (nI a).toNatClampNeg = a := nI_clamp (by omega)
  have cc : (nI c).toNatClampNeg = c := nI_clamp (by omega)
  obtain ⟨da, la, ea⟩ := h.2 a ha
  obtain ⟨dc, lc, ec⟩ := h.2 c hc
  refine ⟨sA M 19 c (nI (min dc (da + v))), ?_, h.1.a (by unfold scA; omega), fun j hj => ?_⟩
  · unfold fX10_shorten
    simp only [ca, cc, ea, ec, nI_add]
    rw [imin_nI (by omega) (by omega)]
    exact eq_f (nI_in hc (by decide)) (eq_f (nI_in ha (by decide)) (eq_f (nI_in hc (by decide)) rfl))
  · rw [gA_sA, if_pos rfl]
    by_cases z : j = c
    · rw [if_pos z]; exact ⟨_, by omega, rfl⟩
    · rw [if_neg z]; exact h.2 j hj
theorem xsteps {n0 q nr a c : Nat} {T : TP} {M : Mem} (hn : 1700 ≤ n0) (hT : XT n0 q T M) (hR : XRd q T.nc nr M) (ha : a < T.nc) (hc : c < T.nc) : okP (fX10_stepsOf n0 q (nI a) (nI c) M) (fun z => XF scA M z.2 ∧ (z.1 = -1 ∨ ∃ d, d < 1000000 ∧ z.1 = nI d)) := by
  obtain ⟨o1, o2, o3, _⟩ := hT.2.1
  have hq := hT.1.1
  have r10 := hR.2.1
  have tw : ∀ M', XF scA M M' → xTw q M M' := fun M' f => f.tw hq scA31
  -- one road after the other
  have l49 : ∀ (k37 : Int32 → Int32 → Mem → Option (Int32 × Mem)) (x4 : Int32) (M1 : Mem), WyI M M1 → ∃ M2, loopN (bX10_stepsOf_49 n0 q k37) (fun _ _ _ _ => none) n0 (nI c) x4 (nI 0) M1 = k37 (nI c) (x4 + 1) M2 ∧ WyI M M2 := fun k37 x4 M1 hI => by
    refine lpC (L := fun w k s => loopN (bX10_stepsOf_49 n0 q k37) (fun _ _ _ _ => none) w (nI c) x4 (nI k) s) (F := fun s => k37 (nI c) (x4 + 1) s) (n := nr) (I := WyI M) (fun w k s hk hs => ?_) (fun w s hs => ?_) n0 0 M1 (by omega) (by omega) hI
    · show ∃ s', bX10_stepsOf_49 n0 q k37 (loopN (bX10_stepsOf_49 n0 q k37) (fun _ _ _ _ => none) w) (nI c) x4 (nI k) s = _ ∧ _
      have Rs := hR.tw (tw s hs.1)
      obtain ⟨a', c', v, a1, a2, _, a4, a5, a6, a7⟩ := Rs.2.2 k hk
      have ck : (nI k).toNatClampNeg = k := nI_clamp (by omega)
      have ok : ¬ oob (nI k) 10 := nI_in (by omega) (by decide)
      obtain ⟨s1, e1, i1⟩ := xshort (n0 := n0) (show a' < 5 by omega) (show c' < 5 by omega) a4 hs
      have R1 := hR.tw (tw s1 i1.1)
      have t1 : gA s1 (q + 6) k = nI a' ∧ gA s1 (q + 7) k = nI c' ∧ gA s1 (q + 8) k = nI v := by
        have := (tw s1 i1.1)
        have h0 := tw s hs.1
        rw [this.2 _ (by omega) (by omega), this.2 _ (by omega) (by omega), this.2 _ (by omega) (by omega), ← h0.2 (q + 6) (by omega) (by omega), ← h0.2 (q + 7) (by omega) (by omega), ← h0.2 (q + 8) (by omega) (by omega)]
        exact ⟨a5, a6, a7⟩
      obtain ⟨s2, e2, i2⟩ := xshort (n0 := n0) (show c' < 5 by omega) (show a' < 5 by omega) a4 i1
      refine ⟨s2, ?_, i2⟩
      unfold bX10_stepsOf_49
      refine eq_f (by rw [Rs.1]; exact nI_ge hk (by omega)) (eq_f ok (eq_f ok (eq_f ok (eq_b (z := s1) (by rw [ck, a5, a6, a7]; exact e1) (eq_f ok (eq_f ok (eq_f ok (eq_b (z := s2) (by rw [ck, t1.1, t1.2.1, t1.2.2]; exact e2) ?_))))))))
      rw [show nI k + 1 = nI (k + 1) from nI_add k 1]
    · show ∃ s', bX10_stepsOf_49 n0 q k37 (loopN (bX10_stepsOf_49 n0 q k37) (fun _ _ _ _ => none) w) (nI c) x4 (nI nr) s = _ ∧ _
      have Rs := hR.tw (tw s hs.1)
      refine ⟨s, ?_, hs⟩
      unfold bX10_stepsOf_49
      exact eq_t (by rw [Rs.1]; exact Int32.le_refl _) rfl
  -- round after round
  have l37 : ∀ M1, WyI M M1 → okP (fX10_stepsOf_37 n0 q (nI c) 0 M1) (fun z => XF scA M z.2 ∧ (z.1 = -1 ∨ ∃ d, d < 1000000 ∧ z.1 = nI d)) := fun M1 hI => by
    refine lpG (L := fun w k s => loopN (bX10_stepsOf_37 n0 q) (fun _ _ _ => none) w (nI c) (nI k) s) (n := T.nc) (I := WyI M) (fun w k s hk hs => Or.inr ?_) (fun w s hs => ?_) n0 0 M1 (by omega) (by omega) hI
    · show ∃ s', bX10_stepsOf_37 n0 q (loopN (bX10_stepsOf_37 n0 q) (fun _ _ _ => none) w) (nI c) (nI k) s = _ ∧ _
      obtain ⟨s1, e1, i1⟩ := l49 (loopN (bX10_stepsOf_37 n0 q) (fun _ _ _ => none) w) (nI k) s hs
      refine ⟨s1, ?_, i1⟩
      unfold bX10_stepsOf_37
      have := (hT.tw (tw s hs.1)).2.2.1
      refine eq_f (by rw [this]; exact nI_ge hk (by omega)) (e1.trans ?_)
      rw [show nI k + 1 = nI (k + 1) from nI_add k 1]
      rfl
    · show okP (bX10_stepsOf_37 n0 q (loopN (bX10_stepsOf_37 n0 q) (fun _ _ _ => none) w) (nI c) (nI T.nc) s) _
      have Ts := (hT.tw (tw s hs.1)).2.2.1
      obtain ⟨d, d1, d2⟩ := hs.2 c (by omega)
      have cc : (nI c).toNatClampNeg = c := nI_clamp (by omega)
      unfold bX10_stepsOf_37
      refine okP_t (by rw [Ts]; exact Int32.le_refl _) (okP_be (xCot Ts (by omega) hc) (okP_f (show ¬ (1 : Int32) = 0 by decide) (okP_f (nI_in (by omega) (by decide)) (okP_ite (fun _ => okP_some ⟨hs.1, Or.inl rfl⟩) (fun z => okP_f (nI_in (by omega) (by decide)) (okP_some ⟨hs.1, Or.inr ⟨d, ?_, ?_⟩⟩))))))
      · rw [cc, d2] at z
        rcases Nat.lt_or_ge d 1000000 with y | y
        · exact y
        · exact absurd (nI_le (a := 1000000) y (by omega)) z
      · rw [cc, d2]
  -- the first row
  have l3 : ∀ w k M1, k ≤ 5 → 5 < w + k → XF scA M M1 → (∀ j, j < k → ∃ d, d ≤ 1000000 ∧ gA M1 19 j = nI d) → okP (loopN (bX10_stepsOf_3 n0 q) (fun _ _ _ _ => none) w (nI a) (nI c) (nI k) M1) (fun z => XF scA M z.2 ∧ (z.1 = -1 ∨ ∃ d, d < 1000000 ∧ z.1 = nI d)) := fun w => by
    induction w with
    | zero => intro k M1 hk hw _ _; omega
    | succ w ih =>
      intro k M1 hk hw hf hd
      show okP (bX10_stepsOf_3 n0 q (loopN (bX10_stepsOf_3 n0 q) (fun _ _ _ _ => none) w) (nI a) (nI c) (nI k) M1) _
      unfold bX10_stepsOf_3
      by_cases g : k = 5
      · exact okP_t (by rw [g]; decide) (l37 M1 ⟨hf, fun j hj => hd j (by omega)⟩)
      · have ck : (nI k).toNatClampNeg = k := nI_clamp (by omega)
        have st : ∀ d, d ≤ 1000000 → okP (fX10_stepsOf_27 n0 q (loopN (bX10_stepsOf_3 n0 q) (fun _ _ _ _ => none) w) (nI a) (nI c) (nI k) (nI k) (nI d) M1) (fun z => XF scA M z.2 ∧ (z.1 = -1 ∨ ∃ d, d < 1000000 ∧ z.1 = nI d)) := fun d hd2 => by
          unfold fX10_stepsOf_27
          refine okP_f (nI_in (by omega) (by decide)) (okP_bnd ?_)
          rw [ck, show nI k + 1 = nI (k + 1) from nI_add k 1]
          refine ih (k + 1) _ (by omega) (by omega) (hf.a (by unfold scA; omega)) (fun j hj => ?_)
          rw [gA_sA, if_pos rfl]
          by_cases z : j = k
          · rw [if_pos z]; exact ⟨d, hd2, rfl⟩
          · rw [if_neg z]; exact hd j (by omega)
        refine okP_f (nI_ge (b := 5) (by omega) (by decide)) (okP_ite (fun _ => st 0 (by omega)) (fun _ => st 1000000 (by omega)))
  exact l3 n0 0 M (by omega) (by omega) XF.r (fun j hj => by omega)
theorem y25Ix {b a c : Nat} : (25 : Int32) * nI b + (5 : Int32) * nI a + nI c = nI (25 * b + 5 * a + c) := by
  rw [show (25 : Int32) = nI 25 from rfl, nI_mul, show (5 : Int32) = nI 5 from rfl, nI_mul, nI_add, nI_add]
theorem yway {n0 q b : Nat} {T : TP} {nr C : Nat} {MX MY : Mem} (h : RT n0 q b T nr C MX MY) (x y : Int32) : ∃ r, fX12_way n0 x y MY = some (r, MY) := by
  have h13 := h.2.2.2.2.1.2.2.2.1
  have hb := h.2.2.2.2.1.2.2.1
  have o2 := h.2.2.2.1.2.1.2.1
  unfold fX12_way
  rcases isCo h x with ⟨a, ha, rfl, _, e2⟩ | ⟨_, _, e2⟩
  · rcases isCo h y with ⟨c, hc, rfl, _, e4⟩ | ⟨_, _, e4⟩
    · have ea : fX12_at n0 (gI MY 13) (nI a) (nI c) MY = some (nI (25 * b + 5 * a + c), MY) := by
        unfold fX12_at
        rw [h13, y25Ix]
      have oi : ¬ oob (nI (25 * b + 5 * a + c)) 50 := nI_in (by omega) (by decide)
      by_cases g : (100000000 : Int32) ≤ gA MY 9 (nI (25 * b + 5 * a + c)).toNatClampNeg
      · exact ⟨_, eq_b e2 (eq_f (show ¬ (1 : Int32) = 0 by decide) (eq_b e4 (eq_f (show ¬ (1 : Int32) = 0 by decide) (eq_b ea (eq_f oi (eq_t g rfl))))))⟩
      · exact ⟨_, eq_b e2 (eq_f (show ¬ (1 : Int32) = 0 by decide) (eq_b e4 (eq_f (show ¬ (1 : Int32) = 0 by decide) (eq_b ea (eq_f oi (eq_f g (eq_b ea (eq_f oi rfl))))))))⟩
    · exact ⟨_, eq_b e2 (eq_f (show ¬ (1 : Int32) = 0 by decide) (eq_b e4 (eq_t rfl rfl)))⟩
  · exact ⟨_, eq_b e2 (eq_t rfl rfl)⟩
theorem nWay {n0 : Nat} {x y : Int32} {MX MY : Mem} (hn : 1700 ≤ n0) (h : R n0 MX MY) : CalN n0 (fX11_way n0 x y MX) (fX12_way n0 x y MY) := by
  obtain ⟨q, b, T, nr, C, m, pm, s, h⟩ := h
  have h1 := h.1
  obtain ⟨r, er⟩ := yway h1 x y
  refine CalN.scr h ?_ ⟨_, er, YF.r⟩
  unfold fX11_way
  rcases isCo h1 x with ⟨a, ha, rfl, e1, _⟩ | ⟨_, e1, _⟩
  · rcases isCo h1 y with ⟨c, hc, rfl, e3, _⟩ | ⟨_, e3, _⟩
    · obtain ⟨⟨r, X⟩, a1, a2, _⟩ := xsteps (n0 := n0) hn h1.2.2.2.1 h1.rd ha hc
      exact ⟨_, eq_b e1 (eq_f (show ¬ (1 : Int32) = 0 by decide) (eq_b e3 (eq_f (show ¬ (1 : Int32) = 0 by decide) (eq_b (by rw [h1.2.1]; exact a1) rfl)))), a2⟩
    · exact ⟨_, eq_b e1 (eq_f (show ¬ (1 : Int32) = 0 by decide) (eq_b e3 (eq_t rfl rfl))), XF.r⟩
  · exact ⟨_, eq_b e1 (eq_t rfl rfl), XF.r⟩
theorem nArrive {n0 : Nat} {x y : Int32} {MX MY : Mem} (hn : 1700 ≤ n0) (h : R n0 MX MY) : CalN n0 (fX11_arrive n0 x y MX) (fX12_arrive n0 x y MY) := by
  have h0 := h
  obtain ⟨q, b, T, nr, C, m, pm, s, h⟩ := h
  obtain ⟨h1, h2, h3, h4, _⟩ := id h
  have hm := h2.1
  obtain ⟨o1, o2, o3, _⟩ := h1.2.2.2.1.2.1
  -- the reference: a way, then later
  have yA : okP (fX12_arrive n0 x y MY) (fun z => YF scP MY z.2) := by
    obtain ⟨r, er⟩ := yway h1 x y
    unfold fX12_arrive
    refine okP_be er (okP_ite (fun _ => okP_some YF.r) (fun _ => ?_))
    -- later comes to an end whatever is asked
    have yl : ∀ z, okP (fX12_later n0 y z MY) (fun u => YF scP MY u.2) := fun z => by
      unfold fX12_later
      rcases isCo h1 y with ⟨c, hc, rfl, _, e2⟩ | ⟨_, _, e2⟩
      · rcases yah (n0 := n0) (lo := 0) (hi := 60) z h4.1.1 hm (by decide) (by decide) with ⟨k, _, k2, k3, rfl, e⟩ | ⟨_, e⟩
        · obtain ⟨Y1, b1, b2, b3⟩ := ycopyD (n0 := n0) (v := 1) (u := 0) hn (by decide) (by decide) (by decide) o2 (by have := h2.2.2.l; omega) h4
          obtain ⟨Y2, c1, c2⟩ := ylat (n0 := n0) (b := b) (m := m) hn hc h2.2.1 k3 n0 0 Y1 s (by omega) (by omega) (h1.2.2.2.2.1.yf b3 lP28) b2 h2.2.2
          exact ⟨_, eq_b e2 (eq_f (show ¬ (1 : Int32) = 0 by decide) (eq_b e (eq_f (show ¬ (1 : Int32) = 0 by decide) (eq_b b1 c1)))), lsc (b3.tr c2)⟩
        · exact ⟨_, eq_b e2 (eq_f (show ¬ (1 : Int32) = 0 by decide) (eq_b e (eq_t rfl rfl))), YF.r⟩
      · exact ⟨_, eq_b e2 (eq_t rfl rfl), YF.r⟩
    obtain ⟨⟨r', Y⟩, a1, a2⟩ := yl r
    exact ⟨_, eq_b a1 rfl, a2⟩
  refine CalN.scr h ?_ yA
  unfold fX11_arrive
  rcases isCo h1 x with ⟨a, ha, rfl, e1, _⟩ | ⟨_, e1, _⟩
  · rcases isCo h1 y with ⟨c, hc, rfl, e3, _⟩ | ⟨_, e3, _⟩
    · obtain ⟨⟨r, X⟩, a1, a2, a3⟩ := xsteps (n0 := n0) hn h1.2.2.2.1 h1.rd ha hc
      refine okP_be e1 (okP_f (show ¬ (1 : Int32) = 0 by decide) (okP_be e3 (okP_f (show ¬ (1 : Int32) = 0 by decide) (okP_be (z := (r, X)) (by rw [h1.2.1]; exact a1) ?_))))
      rcases a3 with a3 | ⟨d, d1, a3⟩
      · exact okP_t a3 (okP_some a2)
      · have er : r = nI d := a3
        subst er
        refine okP_f (nI_m1 (by omega)) (okP_ite (fun _ => okP_some a2) (fun g => ?_))
        have d60 : d ≤ 60 := by
          rcases Nat.lt_or_ge 60 d with y | y
          · exact absurd (nI_lt (a := 60) y (by omega)) g
          · exact y
        have TX := h1.2.2.2.1.xf a2 scA31
        have SX' := h3.fr a2 (fun a z y => by unfold scA at z; unfold stA at y; omega)
        have eb : fX11_isBeyond n0 (nI d) X = some (bI (9999 - m < d), X) := by
          unfold fX11_isBeyond
          rw [SX'.2.2.1, show (9999 : Int32) - nI m = nI (9999 - m) from nI_subN hm]
          by_cases z : d ≤ 9999 - m
          · rw [bI_f (by omega)]; exact eq_t (nI_le z (by omega)) rfl
          · rw [bI_t (by omega)]; exact eq_f (nI_ge (by omega) (by omega)) rfl
        refine okP_be eb ?_
        by_cases z : 9999 - m < d
        · exact okP_f (show ¬ bI (9999 - m < d) = 0 by rw [bI_t z]; decide) (okP_some a2)
        · obtain ⟨X1, b1, b2, b3⟩ := xfc (n0 := n0) (q1 := 26) (most := d) hn TX SX' h2.2.1 hc hm d60 (Or.inl rfl)
          exact okP_t (show bI (9999 - m < d) = 0 from bI_f z) (okP_be b1 (okP_f (nI_in (by omega) (by decide)) (okP_some (a2.tr (b3.wk (fun a y => by unfold scA; omega))))))
    · exact ⟨_, eq_b e1 (eq_f (show ¬ (1 : Int32) = 0 by decide) (eq_b e3 (eq_t rfl rfl))), XF.r⟩
  · exact ⟨_, eq_b e1 (eq_t rfl rfl), XF.r⟩
end
section
/-! EARLY COMES TO AN END -/
theorem xout {n0 q nr c : Nat} {T : TP} {M : Mem} (hn : 1700 ≤ n0) (hT : XT n0 q T M) (hR : XRd q T.nc nr M) (hc : c < T.nc) : okP (fX10_goOutFrom n0 q (nI c) M) (fun M' => XF scA M M') := by
  have hq := hT.1.1
  have r10 := hR.2.1
  have tw : ∀ M', XF scA M M' → xTw q M M' := fun M' f => f.tw hq scA31
  have l27 : ∀ (k11 : Int32 → Mem → Option Mem) (k : Nat) (M1 : Mem), k ≤ 60 → XF scA M M1 → ∃ M2, loopN (bX10_goOutFrom_27 n0 q k11) (fun _ _ _ => none) n0 (nI k) (nI 0) M1 = k11 (nI (k + 1)) M2 ∧ XF scA M M2 := fun k11 k M1 hk hI => by
    refine lpC (L := fun w r s => loopN (bX10_goOutFrom_27 n0 q k11) (fun _ _ _ => none) w (nI k) (nI r) s) (F := fun s => k11 (nI (k + 1)) s) (n := nr) (I := XF scA M) (fun w r s hr hs => ?_) (fun w s hs => ?_) n0 0 M1 (by omega) (by omega) hI
    · show ∃ s', bX10_goOutFrom_27 n0 q k11 (loopN (bX10_goOutFrom_27 n0 q k11) (fun _ _ _ => none) w) (nI k) (nI r) s = _ ∧ _
      have Rs := hR.tw (tw s hs)
      obtain ⟨a', c', v, a1, a2, a3, a4, a5, a6, a7⟩ := Rs.2.2 r hr
      have cr : (nI r).toNatClampNeg = r := nI_clamp (by omega)
      have or : ¬ oob (nI r) 10 := nI_in (by omega) (by decide)
      have r1 : nI r + 1 = nI (r + 1) := nI_add r 1
      have st : ¬ gI s (128 * q + 8) ≤ nI r := by rw [Rs.1]; exact nI_ge hr (by omega)
      by_cases g : v ≤ k
      · have ac : fX10_across n0 q (nI r) (gA s 20 (nI (k - v)).toNatClampNeg) s = some ((((gA s 20 (nI (k - v)).toNatClampNeg >>> (nI a' &&& 31)) &&& (1 : Int32)) <<< (nI c' &&& 31)) ||| (((gA s 20 (nI (k - v)).toNatClampNeg >>> (nI c' &&& 31)) &&& (1 : Int32)) <<< (nI a' &&& 31)), s) := by
          unfold fX10_across
          exact eq_f or (eq_e (v' := nI a') (by rw [cr, a5]) (eq_f or (eq_e (v' := nI c') (by rw [cr, a6]) rfl)))
        refine ⟨?wt1, ?_, ?_⟩
        rotate_left
        · unfold bX10_goOutFrom_27 fX10_goOutFrom_74
          refine eq_f st (eq_f or (eq_e (v' := nI (k - v)) (by rw [cr, a7, nI_subN g]) (eq_f (nI_nn (by omega)) (eq_f (nI_in (by omega) (by decide)) (eq_f (nI_in (by omega) (by decide)) (eq_b ac (eq_f (nI_in (by omega) (by decide)) ?_)))))))
          rw [r1]
        · exact hs.a (by unfold scA; omega)
      · refine ⟨s, ?_, hs⟩
        unfold bX10_goOutFrom_27 fX10_goOutFrom_74
        refine eq_f st (eq_f or (eq_n (eq_t ?_ ?_)))
        · rw [cr, a7, i_lt, nz, nz, zI_sub, zI_toInt (by omega) (by omega), show (0 : Int32).toInt = 0 from rfl]
          omega
        · rw [r1]
    · refine ⟨s, ?_, hs⟩
      show bX10_goOutFrom_27 n0 q k11 (loopN (bX10_goOutFrom_27 n0 q k11) (fun _ _ _ => none) w) (nI k) (nI nr) s = _
      have Rs := hR.tw (tw s hs)
      unfold bX10_goOutFrom_27
      refine eq_t (by rw [Rs.1]; exact Int32.le_refl _) ?_
      rw [show nI k + 1 = nI (k + 1) from nI_add k 1]
  have l11 : ∀ M1, XF scA M M1 → okP (loopN (bX10_goOutFrom_11 n0 q) (fun _ _ => none) n0 (nI 1) M1) (fun M' => XF scA M M') := fun M1 hI => by
    refine lpG (L := fun w k s => loopN (bX10_goOutFrom_11 n0 q) (fun _ _ => none) w (nI k) s) (n := 61) (I := XF scA M) (fun w k s hk hs => Or.inr ?_) (fun w s hs => ?_) n0 1 M1 (by omega) (by omega) hI
    · show ∃ s', bX10_goOutFrom_11 n0 q (loopN (bX10_goOutFrom_11 n0 q) (fun _ _ => none) w) (nI k) s = _ ∧ _
      obtain ⟨s2, e2, i2⟩ := l27 (loopN (bX10_goOutFrom_11 n0 q) (fun _ _ => none) w) k (sA s 20 (nI k).toNatClampNeg 0) (by omega) (hs.a (by unfold scA; omega))
      refine ⟨s2, ?_, i2⟩
      unfold bX10_goOutFrom_11
      exact eq_f (fun z => by have := (nI_ltI (a := 60) (by decide) (by omega)).mp z; omega) (eq_f (nI_in (by omega) (by decide)) (eq_n e2))
    · show okP (bX10_goOutFrom_11 n0 q (loopN (bX10_goOutFrom_11 n0 q) (fun _ _ => none) w) (nI 61) s) _
      unfold bX10_goOutFrom_11
      exact okP_t (by decide) (okP_some hs)
  unfold fX10_goOutFrom
  exact okP_f (by decide) (okP_bnd (l11 _ (XF.r.a (by unfold scA; omega))))
theorem xearly {n0 q nr c m : Nat} {T : TP} {pm : Nat → Int32 × Nat} {s : Nat × List (Nat × Nat)} {M : Mem} (hn : 1700 ≤ n0) (hT : XT n0 q T M) (hS : SX q T.nc T.nd m pm s M) (hO : PsO T.nt T.nc pm) (hR : XRd q T.nc nr M) (hq1 : gR M 1 = q) (hc : c < T.nc) (hm : m ≤ 9999) : okP ((fX11_foresee n0 26 (nI c) (60 : Int32) M).bind fun z21 => (fX10_goOutFrom n0 (gR z21.2 1) (nI c) z21.2).bind fun z34 => fX11_early_39 n0 (nI c) z21.1 (1 : Int32) z34) (fun z => XF scA M z.2) := by
  obtain ⟨X1, a1, a2, a3⟩ := xfc (n0 := n0) (q1 := 26) (most := 60) hn hT hS hO hc hm (by decide) (Or.inl rfl)
  have f1 : XF scA M X1 := a3.wk (fun a y => by unfold scA; omega)
  have T1 := hT.xf f1 scA31
  obtain ⟨X2, b1, b2⟩ := xout (n0 := n0) hn T1 (hR.tw (f1.tw hT.1.1 scA31)) hc
  refine okP_be a1 (okP_be (z := X2) (by rw [show gR X1 1 = q by rw [f1.1]; exact hq1]; exact b1) ?_)
  have f2 := f1.tr b2
  show okP (loopN (bX11_early_39 n0) (fun _ _ _ _ => none) n0 (nI c) (nI (min 60 (9999 - m))) (nI 1) X2) (fun z => XF scA M z.2)
  refine lpG (L := fun w k s => loopN (bX11_early_39 n0) (fun _ _ _ _ => none) w (nI c) (nI (min 60 (9999 - m))) (nI k) s) (n := min 60 (9999 - m) + 1) (I := XF scA M) (fun w k s hk hs => ?_) (fun w s hs => ?_) n0 1 X2 (by omega) (by omega) f2
  · show okP (bX11_early_39 n0 (loopN (bX11_early_39 n0) (fun _ _ _ _ => none) w) (nI c) (nI (min 60 (9999 - m))) (nI k) s) _ ∨ ∃ s', bX11_early_39 n0 (loopN (bX11_early_39 n0) (fun _ _ _ _ => none) w) (nI c) (nI (min 60 (9999 - m))) (nI k) s = _ ∧ _
    have k1 : nI k + 1 = nI (k + 1) := nI_add k 1
    have st : ¬ nI (min 60 (9999 - m)) < nI k := fun z => by have := (nI_ltI (by omega) (by omega)).mp z; omega
    obtain ⟨r, er⟩ : ∃ r, fX10_canBeAt n0 (nI c) (nI k) s = some (r, s) := by
      unfold fX10_canBeAt
      by_cases z : ((gA s 20 (nI k).toNatClampNeg >>> (nI c &&& 31)) &&& (1 : Int32)) = 1
      · exact ⟨1, eq_f (nI_nn (by omega)) (eq_f (fun z => by have := (nI_ltI (a := 60) (by decide) (by omega)).mp z; omega) (eq_f (nI_in (by omega) (by decide)) (eq_t z rfl)))⟩
      · exact ⟨0, eq_f (nI_nn (by omega)) (eq_f (fun z => by have := (nI_ltI (a := 60) (by decide) (by omega)).mp z; omega) (eq_f (nI_in (by omega) (by decide)) (eq_f z rfl)))⟩
    unfold bX11_early_39 fX11_early_73
    rw [k1]
    by_cases z : r = 0
    · exact Or.inr ⟨s, eq_f st (eq_b er (eq_t z rfl)), hs⟩
    · by_cases y : gA s 26 (Int32.toNatClampNeg 0) ≤ gA s 26 (nI k).toNatClampNeg
      · exact Or.inr ⟨s, eq_f st (eq_b er (eq_f z (eq_f (nI_in (by omega) (by decide)) (eq_f (by decide) (eq_t y rfl))))), hs⟩
      · exact Or.inl ⟨_, eq_f st (eq_b er (eq_f z (eq_f (nI_in (by omega) (by decide)) (eq_f (by decide) (eq_f y rfl))))), hs⟩
  · show okP (bX11_early_39 n0 (loopN (bX11_early_39 n0) (fun _ _ _ _ => none) w) (nI c) (nI (min 60 (9999 - m))) (nI (min 60 (9999 - m) + 1)) s) _
    unfold bX11_early_39
    exact okP_t (nI_lt (by omega) (by omega)) (okP_some hs)
def YSt (b : Nat) (M : Mem) : Prop := ∀ a c, a < 5 → c < 5 → ∃ v, v ≤ 30 ∧ gA M 8 (25 * b + 5 * a + c) = nI v
theorem RT.st {n0 q b : Nat} {T : TP} {nr C : Nat} {MX MY : Mem} (h : RT n0 q b T nr C MX MY) : YSt b MY := fun a c ha hc => by
  obtain ⟨c1, c2, c3⟩ := h.2.2.2.2.2.1.2.2.2.2.1
  rw [Nat.add_assoc]
  rcases c3.2.2 a c ha hc with ⟨z, _⟩ | ⟨k, hk, _, z⟩
  · exact ⟨0, by omega, z⟩
  · obtain ⟨_, _, v, _, _, _, _, v2, _, _, v3⟩ := c3.2.1 k hk
    exact ⟨v, v2, (show gA MY 8 (25 * b + (5 * a + c)) = _ from z).trans v3⟩
def eP (a i : Nat) : Prop := lP 1 a i ∨ a = 38
theorem eP28 : ∀ a i, eP a i → 28 ≤ a := fun a i z => by unfold eP lP tP dP at z; omega
theorem ePn : ¬ eP 28 0 := fun z => by unfold eP lP tP dP at z; omega
theorem ePsc {M M' : Mem} (f : YF eP M M') : YF scP M M' := f.wk (fun a i z => z.elim (fun y => Or.inl y) (fun y => Or.inr (Or.inl (by omega))))
theorem le1 {M M' : Mem} (f : YF (lP 1) M M') : YF eP M M' := f.wk (fun _ _ z => Or.inl z)
theorem yearly {n0 b c m : Nat} {T : TP} {pm : Nat → Int32 × Nat} {s : Nat × List (Nat × Nat)} {M : Mem} (hn : 1700 ≤ n0) (hY : YT n0 b T M) (hL : LyD 0 T.nc m pm s M) (hO : PsO T.nt T.nc pm) (hs : sOk T.nd s) (hSt : YSt b M) (hc : c < T.nc) (hm : m ≤ 9999) : okP (fX12_early_21 n0 (nI c) (1 : Int32) M) (fun z => YF eP M z.2) := by
  obtain ⟨o1, o2, o3, _⟩ := hY.2.1
  have hb := hY.2.2.1
  have hl := hs.l
  have h13 : ∀ M', YF eP M M' → gI M' 13 = nI b := fun M' f => by rw [f.2.2.1]; exact hY.2.2.2.1
  have St : ∀ M', YF eP M M' → YSt b M' := fun M' f a c' ha hc' => by
    rw [f.gA (a := 8) (fun i z => by unfold eP lP tP dP at z; omega) (by decide)]
    exact hSt a c' ha hc'
  -- from one corner
  have l44 : ∀ (k21 : Int32 → Int32 → Mem → Option (Int32 × Mem)) (k36 : Int32 → Int32 → Int32 → Mem → Option (Int32 × Mem)) (n a : Nat) (M1 : Mem), 1 ≤ n → n ≤ 60 → a < 5 → YF eP M M1 → ∃ M2, loopN (bX12_early_44 n0 k21 k36) (fun _ _ _ _ _ => none) n0 (nI c) (nI n) (nI a) (nI 0) M1 = k36 (nI c) (nI n) (nI (a + 1)) M2 ∧ YF eP M M2 := fun k21 k36 n a M1 hn1 hn2 ha hI => by
    refine lpC (L := fun w k s => loopN (bX12_early_44 n0 k21 k36) (fun _ _ _ _ _ => none) w (nI c) (nI n) (nI a) (nI k) s) (F := fun s => k36 (nI c) (nI n) (nI (a + 1)) s) (n := 5) (I := YF eP M) (fun w k s hk hs => ?_) (fun w s hs => ?_) n0 0 M1 (by omega) (by omega) hI
    · show ∃ s', bX12_early_44 n0 k21 k36 (loopN (bX12_early_44 n0 k21 k36) (fun _ _ _ _ _ => none) w) (nI c) (nI n) (nI a) (nI k) s = _ ∧ _
      obtain ⟨v, v1, v2⟩ := St s hs a k ha hk
      have ea : fX12_at n0 (gI s 13) (nI a) (nI k) s = some (nI (25 * b + 5 * a + k), s) := by
        unfold fX12_at
        rw [h13 s hs, y25Ix]
      have oi : ¬ oob (nI (25 * b + 5 * a + k)) 50 := nI_in (by omega) (by decide)
      have on : ¬ oob (nI n) 61 := nI_in (by omega) (by decide)
      have cn : (nI n).toNatClampNeg = n := nI_clamp (by omega)
      have k1 : nI k + 1 = nI (k + 1) := nI_add k 1
      have ev : gA s 8 (nI (25 * b + 5 * a + k)).toNatClampNeg = nI v := by rw [nI_clamp (by omega)]; exact v2
      have st : ¬ (5 : Int32) ≤ nI k := nI_ge (b := 5) hk (by decide)
      have go : ∀ u2 u3, fX12_early_110 n0 k21 k36 (loopN (bX12_early_44 n0 k21 k36) (fun _ _ _ _ _ => none) w) (nI c) (nI n) (nI a) (nI k) (nI n) u2 u3 s = loopN (bX12_early_44 n0 k21 k36) (fun _ _ _ _ _ => none) w (nI c) (nI n) (nI a) (nI (k + 1)) (sA s 38 n (u2 ||| u3)) := fun u2 u3 => by
        unfold fX12_early_110
        refine eq_f on (eq_n ?_)
        rw [cn, k1]
      have fs : ∀ u, YF eP M (sA s 38 n u) := fun u => hs.a (Or.inr rfl)
      unfold bX12_early_44
      by_cases g1 : v = 0
      · refine ⟨?wt2, eq_f st (eq_b ea (eq_f oi (eq_e ev (eq_f on (eq_t (by rw [g1]; decide) ?_))))), ?_⟩
        rotate_left
        · unfold fX12_early_109
          exact go _ _
        · exact fs _
      · have g1' : ¬ nI v ≤ 0 := nI_ge (a := 0) (by omega) (by omega)
        by_cases g2 : n < v
        · refine ⟨?wt3, eq_f st (eq_b ea (eq_f oi (eq_e ev (eq_f on (eq_f g1' (eq_t (nI_lt g2 (by omega)) ?_)))))), ?_⟩
          rotate_left
          · unfold fX12_early_109
            exact go _ _
          · exact fs _
        · have g2' : ¬ nI n < nI v := fun z => g2 ((nI_ltI (by omega) (by omega)).mp z)
          have od : ¬ oob (nI n - nI v) 61 := by rw [nI_subN (by omega)]; exact nI_in (by omega) (by decide)
          obtain ⟨r, er⟩ : ∃ r, fX12_has2 n0 (gA s 38 (nI n - nI v).toNatClampNeg) (nI a) s = some (r, s) := by
            unfold fX12_has2
            by_cases z : ((gA s 38 (nI n - nI v).toNatClampNeg >>> (nI a &&& 31)) &&& (1 : Int32)) = 1
            · exact ⟨1, eq_t z rfl⟩
            · exact ⟨0, eq_f z rfl⟩
          by_cases g3 : r = 0
          · refine ⟨?wt4, eq_f st (eq_b ea (eq_f oi (eq_e ev (eq_f on (eq_f g1' (eq_f g2' (eq_f od (eq_b er (eq_t g3 ?_))))))))), ?_⟩
            rotate_left
            · unfold fX12_early_109
              exact go _ _
            · exact fs _
          · refine ⟨?wt5, eq_f st (eq_b ea (eq_f oi (eq_e ev (eq_f on (eq_f g1' (eq_f g2' (eq_f od (eq_b er (eq_f g3 ?_))))))))), ?_⟩
            rotate_left
            · exact go _ _
            · exact fs _
    · refine ⟨s, ?_, hs⟩
      show bX12_early_44 n0 k21 k36 (loopN (bX12_early_44 n0 k21 k36) (fun _ _ _ _ _ => none) w) (nI c) (nI n) (nI a) (nI 5) s = _
      unfold bX12_early_44
      refine eq_t (by decide) ?_
      rw [show nI a + 1 = nI (a + 1) from nI_add a 1]
  -- one minute
  have l36 : ∀ (k21 : Int32 → Int32 → Mem → Option (Int32 × Mem)) (n : Nat) (M1 : Mem), 1 ≤ n → n ≤ 60 → YF eP M M1 → ∃ M2, loopN (bX12_early_36 n0 k21) (fun _ _ _ _ => none) n0 (nI c) (nI n) (nI 0) M1 = k21 (nI c) (nI (n + 1)) M2 ∧ YF eP M M2 := fun k21 n M1 hn1 hn2 hI => by
    refine lpC (L := fun w k s => loopN (bX12_early_36 n0 k21) (fun _ _ _ _ => none) w (nI c) (nI n) (nI k) s) (F := fun s => k21 (nI c) (nI (n + 1)) s) (n := 5) (I := YF eP M) (fun w k s hk hs => ?_) (fun w s hs => ?_) n0 0 M1 (by omega) (by omega) hI
    · show ∃ s', bX12_early_36 n0 k21 (loopN (bX12_early_36 n0 k21) (fun _ _ _ _ => none) w) (nI c) (nI n) (nI k) s = _ ∧ _
      obtain ⟨s2, e2, i2⟩ := l44 k21 (loopN (bX12_early_36 n0 k21) (fun _ _ _ _ => none) w) n k s hn1 hn2 hk hs
      refine ⟨s2, ?_, i2⟩
      unfold bX12_early_36
      exact eq_f (nI_ge (b := 5) hk (by decide)) e2
    · refine ⟨s, ?_, hs⟩
      show bX12_early_36 n0 k21 (loopN (bX12_early_36 n0 k21) (fun _ _ _ _ => none) w) (nI c) (nI n) (nI 5) s = _
      unfold bX12_early_36
      refine eq_t (by decide) ?_
      rw [show nI n + 1 = nI (n + 1) from nI_add n 1]
  -- minutes ahead
  have l145 : ∀ (x2 : Int32) w k M1, k ≤ min 60 (9999 - m) + 1 → 1 ≤ k → min 60 (9999 - m) + 1 < w + k → YF eP M M1 → LyD 1 T.nc (m + (k - 1)) (trP T m pm (k - 1)) s M1 → okP (loopN (bX12_early_145 n0) (fun _ _ _ _ => none) w (nI c) x2 (nI k) M1) (fun z => YF eP M z.2) := fun x2 w => by
    induction w with
    | zero => intro k M1 hk _ hw _ _; omega
    | succ w ih =>
      intro k M1 hk hk1 hw hI hL1
      show okP (bX12_early_145 n0 (loopN (bX12_early_145 n0) (fun _ _ _ _ => none) w) (nI c) x2 (nI k) M1) _
      have m28 : gA M1 28 0 = nI m := m28f hL.1.1 hI ePn
      have Y1 := hY.yf hI eP28
      unfold bX12_early_145 fX12_early_186
      rw [show nI k + 1 = nI (k + 1) from nI_add k 1]
      by_cases g : k = min 60 (9999 - m) + 1
      · exact okP_be (yahF (lo := 1) (hi := 60) m28 hm (by decide) (by decide) (by omega) (by omega)) (okP_t rfl (okP_some hI))
      · obtain ⟨j, rfl⟩ : ∃ j, k = j + 1 := ⟨k - 1, by omega⟩
        rw [Nat.add_sub_cancel] at hL1
        obtain ⟨M2, g1, g2, g3⟩ := ytickD (v := 1) hn Y1 (by decide) hL1 (trP_ok hO j) hs (by omega)
        have f2 := hI.tr (le1 g3)
        obtain ⟨r, er⟩ : ∃ r, fX12_has2 n0 (gA M2 38 (nI (j + 1)).toNatClampNeg) (nI c) M2 = some (r, M2) := by
          unfold fX12_has2
          by_cases z : ((gA M2 38 (nI (j + 1)).toNatClampNeg >>> (nI c &&& 31)) &&& (1 : Int32)) = 1
          · exact ⟨1, eq_t z rfl⟩
          · exact ⟨0, eq_f z rfl⟩
        refine okP_be (yahT (lo := 1) (hi := 60) m28 (by omega) (by omega) (by decide) (by omega)) (okP_f (show ¬ (1 : Int32) = 0 by decide) (okP_be g1 (okP_f (nI_in (by omega) (by decide)) (okP_be er (okP_ite (fun _ => ?_) (fun _ => ?_))))))
        · exact ih (j + 1 + 1) M2 (by omega) (by omega) (by omega) f2 g2
        · obtain ⟨_, M3, e1, e2⟩ := yhr (hY.yf f2 eP28) (v := 1) (by decide) g2.1 (trP_ok hO (j + 1)) (by omega) hc
          have f3 := f2.tr (e2.y : YF eP M2 M3)
          refine okP_be e1 (okP_ite (fun _ => ?_) (fun _ => okP_some f3))
          exact ih (j + 1 + 1) M3 (by omega) (by omega) (by omega) f3 (LyD.fr (P := fun _ _ => False) g2 e2.y o2 (by omega) (fun _ _ z => z.elim))
  refine lpG (L := fun w k s => loopN (bX12_early_21 n0) (fun _ _ _ => none) w (nI c) (nI (k + 1)) s) (n := 60) (I := YF eP M) (fun w k s' hk hs' => ?_) (fun w s' hs' => ?_) n0 0 M (by omega) (by omega) YF.r
  · show okP (bX12_early_21 n0 (loopN (bX12_early_21 n0) (fun _ _ _ => none) w) (nI c) (nI (k + 1)) s') _ ∨ ∃ s'', bX12_early_21 n0 (loopN (bX12_early_21 n0) (fun _ _ _ => none) w) (nI c) (nI (k + 1)) s' = _ ∧ _
    obtain ⟨s2, e2, i2⟩ := l36 (loopN (bX12_early_21 n0) (fun _ _ _ => none) w) (k + 1) (sA s' 38 (nI (k + 1)).toNatClampNeg 0) (by omega) (by omega) (hs'.a (Or.inr rfl))
    refine Or.inr ⟨s2, ?_, i2⟩
    unfold bX12_early_21
    exact eq_f (fun z => by have := (nI_ltI (a := 60) (by decide) (by omega)).mp z; omega) (eq_f (nI_in (by omega) (by decide)) (eq_n e2))
  · show okP (bX12_early_21 n0 (loopN (bX12_early_21 n0) (fun _ _ _ => none) w) (nI c) (nI (60 + 1)) s') _
    have Y1 := hY.yf hs' eP28
    have L1 : LyD 0 T.nc m pm s s' := hL.fr hs' o2 (by omega) (fun a i z y => by unfold eP lP tP dP at z; unfold lP tP dP at y; omega)
    obtain ⟨_, M2, e1, e2⟩ := yhr Y1 (v := 0) (by decide) L1.1 hO (by omega) hc
    have L2 : LyD 0 T.nc m pm s M2 := LyD.fr (P := fun _ _ => False) L1 e2.y o2 (by omega) (fun _ _ z => z.elim)
    obtain ⟨M3, b1, b2, b3⟩ := ycopyD (n0 := n0) (v := 1) (u := 0) hn (by decide) (by decide) (by decide) o2 (by omega) L2
    unfold bX12_early_21
    exact okP_t (by decide) (okP_be e1 (okP_be b1 (l145 _ n0 1 M3 (by omega) (by omega) (by omega) (hs'.tr ((e2.y : YF eP s' M2).tr (le1 b3))) b2)))
theorem nEarly {n0 : Nat} {x : Int32} {MX MY : Mem} (hn : 1700 ≤ n0) (h : R n0 MX MY) : CalN n0 (fX11_early n0 x MX) (fX12_early n0 x MY) := by
  obtain ⟨q, b, T, nr, C, m, pm, s, h⟩ := h
  obtain ⟨h1, h2, h3, h4, _⟩ := id h
  obtain ⟨o1, o2, o3, _⟩ := h1.2.2.2.1.2.1
  have hl := h2.2.2.l
  unfold fX11_early fX12_early
  rcases isCo h1 x with ⟨c, hc, rfl, e1, e2⟩ | ⟨_, e1, e2⟩
  · have f1 : YF eP MY (sA MY 38 (Int32.toNatClampNeg 0) ((1 : Int32) <<< (nI c &&& 31))) := YF.r.a (Or.inr rfl)
    obtain ⟨⟨r, Y⟩, a1, a2⟩ := yearly (n0 := n0) hn (h1.2.2.2.2.1.yf f1 eP28) (h4.fr f1 o2 (by omega) (fun a i z y => by unfold eP lP tP dP at z; unfold lP tP dP at y; omega)) h2.2.1 h2.2.2 (show YSt b (sA MY 38 (Int32.toNatClampNeg 0) ((1 : Int32) <<< (nI c &&& 31))) from fun a c' ha hc' => by rw [gA_sA_ne (by decide)]; exact h1.st a c' ha hc') hc h2.1
    refine CalN.scr h (okP_be e1 (okP_f (show ¬ (1 : Int32) = 0 by decide) (xearly hn h1.2.2.2.1 h3 h2.2.1 h1.rd h1.2.1 hc h2.1))) ⟨_, eq_b e2 (eq_f (show ¬ (1 : Int32) = 0 by decide) (eq_f (by decide) (eq_n a1))), ePsc (f1.tr a2)⟩
  · exact CalN.scr h ⟨_, eq_b e1 (eq_t rfl rfl), XF.r⟩ ⟨_, eq_b e2 (eq_t rfl rfl), YF.r⟩
end
section
/-! ODDS COME TO AN END -/
def CalL (n0 : Nat) (f g : Option (Int64 × Mem)) : Prop := ∃ r r' MX' MY', f = some (r, MX') ∧ g = some (r', MY') ∧ R n0 MX' MY'
theorem CalL.scr {n0 q b : Nat} {T : TP} {nr C m : Nat} {pm : Nat → Int32 × Nat} {s : Nat × List (Nat × Nat)} {MX MY : Mem} {f g : Option (Int64 × Mem)} (h : RR n0 q b T nr C m pm s MX MY) (e1 : okP f (fun z => XF scA MX z.2)) (e2 : okP g (fun z => YF scP MY z.2)) : CalL n0 f g := by
  obtain ⟨⟨r, X⟩, a1, a2⟩ := e1
  obtain ⟨⟨r', Y⟩, b1, b2⟩ := e2
  exact ⟨r, r', X, Y, a1, b1, q, b, T, nr, C, m, pm, s, h.scr a2 b2⟩
theorem nN31 : ∀ a, noN a → a < 31 ∨ 63 ≤ a := fun _ z => z.elim
def OdI (c m : Nat) (M0 : Mem) (s : Int64 × Mem) : Prop := XF noN M0 s.2 ∧ gI s.2 897 = nI c ∧ gI s.2 900 = nI m
theorem xone {n0 q c m h : Nat} {t x1 : Int32} {T : TP} {M : Mem} (hn : 1700 ≤ n0) (hT : XT n0 q T M) (hX : PmX q c t h m M) (hO : PmO T.nt c t h m) (hm : m < 9999) (h1 : gR M 1 = q) : okP (fX11_countRowsOfOne n0 x1 M) (fun z => XF noN M z.2) := by
  have o1 := hT.2.1.1
  obtain ⟨M1, a1, a2, a3⟩ := xgo hT.1 hX hO hm
  have ok := tk_ok (nt := T.nt) (c := c) (m := m + 1) (gF := T.gF) (p := (t, h)) ⟨hO.2.1, hO.2.2.1⟩
  obtain ⟨_, M2, b1, b2, b3⟩ := xhr (hT.1.xf a3 nN31) a2 ⟨hO.1, ok.1, ok.2, by omega⟩
  have lp : ∀ v M3, OdI c (m + 1) M (v, M3) → okP (fX11_countRowsOfOne_26 n0 x1 v M3) (fun z => XF noN M z.2) := fun v M3 hI => by
    refine lpG (L := fun w k s => loopN (bX11_countRowsOfOne_30 n0) (fun _ _ _ _ => none) w x1 s.1 (nI k) s.2) (n := T.nt) (I := OdI c (m + 1) M) (fun w k s hk hs => Or.inr ?_) (fun w s hs => ?_) n0 0 (v, M3) (by omega) (by omega) hI
    · show ∃ s', bX11_countRowsOfOne_30 n0 (loopN (bX11_countRowsOfOne_30 n0) (fun _ _ _ _ => none) w) x1 s.1 (nI k) s.2 = _ ∧ _
      have T1 := hT.xf hs.1 nN31
      have q1 : gR s.2 1 = q := by rw [hs.1.1]; exact h1
      have r1 : gR s.2 896 = q := by rw [hs.1.1]; exact hX.1
      have f1 : XF noN M (hld s.2 (nI c) (nI k) 0 (nI (m + 1))) := hs.1.tr hld_f
      obtain ⟨_, M4, c1, c2, c3⟩ := xhr (hT.1.xf f1 nN31) (hld_p (h := 0) r1) ⟨hO.1, Or.inr ⟨k, hk, rfl⟩, Nat.zero_le _, by omega⟩
      have f4 := f1.tr c3
      by_cases g : nI (T.hF c (nI k) 0 (m + 1)) = x1
      · refine ⟨(s.1 + (gI M4 (128 * (gR M4 1) + 16)).toInt64, M4), ?_, f4, c2.2.1, c2.2.2.2.2⟩
        unfold bX11_countRowsOfOne_30
        refine eq_f (by rw [q1, T1.1.2.2.1]; exact nI_ge hk (by omega)) (eq_b (z := hld s.2 (nI c) (nI k) 0 (nI (m + 1))) (by rw [hs.2.1, hs.2.2]; exact xhold) (eq_b c1 (eq_t g ?_)))
        unfold fX11_countRowsOfOne_88
        rw [show nI k + 1 = nI (k + 1) from nI_add k 1]
        rfl
      · refine ⟨(s.1, M4), ?_, f4, c2.2.1, c2.2.2.2.2⟩
        unfold bX11_countRowsOfOne_30
        refine eq_f (by rw [q1, T1.1.2.2.1]; exact nI_ge hk (by omega)) (eq_b (z := hld s.2 (nI c) (nI k) 0 (nI (m + 1))) (by rw [hs.2.1, hs.2.2]; exact xhold) (eq_b c1 (eq_f g ?_)))
        unfold fX11_countRowsOfOne_88
        rw [show nI k + 1 = nI (k + 1) from nI_add k 1]
    · show okP (bX11_countRowsOfOne_30 n0 (loopN (bX11_countRowsOfOne_30 n0) (fun _ _ _ _ => none) w) x1 s.1 (nI T.nt) s.2) _
      have T1 := hT.xf hs.1 nN31
      have q1 : gR s.2 1 = q := by rw [hs.1.1]; exact h1
      unfold bX11_countRowsOfOne_30
      exact okP_t (by rw [q1, T1.1.2.2.1]; exact Int32.le_refl _) (okP_some hs.1)
  have f2 := a3.tr b3
  unfold fX11_countRowsOfOne
  refine okP_be a1 (okP_be b1 (okP_ite (fun _ => ?_) (fun _ => lp _ _ ⟨f2, b2.2.1, b2.2.2.2.2⟩)))
  exact okP_be rfl (lp _ _ ⟨f2, b2.2.1, b2.2.2.2.2⟩)
theorem xtwo {n0 q c m h : Nat} {t x1 : Int32} {T : TP} {M : Mem} (hn : 1700 ≤ n0) (hT : XT n0 q T M) (hX : PmX q c t h m M) (hO : PmO T.nt c t h m) (hm : m + 1 < 9999) (h1 : gR M 1 = q) : okP (fX11_countRowsOfTwo n0 x1 M) (fun z => XF noN M z.2) := by
  have o1 := hT.2.1.1
  obtain ⟨M1, a1, a2, a3⟩ := xgo hT.1 hX hO (by omega)
  have ok := tk_ok (nt := T.nt) (c := c) (m := m + 1) (gF := T.gF) (p := (t, h)) ⟨hO.2.1, hO.2.2.1⟩
  obtain ⟨⟨r2, M2⟩, b1, b2⟩ := xone (n0 := n0) (x1 := x1) hn (hT.xf a3 nN31) a2 ⟨hO.1, ok.1, ok.2, by omega⟩ (by omega) (by rw [a3.1]; exact h1)
  have b2' : XF noN M1 M2 := b2
  unfold fX11_countRowsOfTwo
  refine okP_bnd (okP_be a1 (okP_bnd (okP_be rfl (okP_be b1 (okP_bnd ?_)))))
  rw [hX.2.1, a2.2.2.2.2]
  refine lpG (L := fun w k (s : Int64 × Mem) => loopN (bX11_countRowsOfTwo_38 n0) (fun _ _ _ _ _ _ => none) w x1 (nI c) (nI (m + 1)) s.1 (nI k) s.2) (n := T.nt) (I := fun s => XF noN M s.2) (fun w k s hk hs => Or.inr ?_) (fun w s hs => ?_) n0 0 (_, M2) (by omega) (by omega) (a3.tr b2')
  · show ∃ s', bX11_countRowsOfTwo_38 n0 (loopN (bX11_countRowsOfTwo_38 n0) (fun _ _ _ _ _ _ => none) w) x1 (nI c) (nI (m + 1)) s.1 (nI k) s.2 = _ ∧ _
    have T1 := hT.xf hs nN31
    have q1 : gR s.2 1 = q := by rw [hs.1]; exact h1
    have r1 : gR s.2 896 = q := by rw [hs.1]; exact hX.1
    have f1 : XF noN M (hld s.2 (nI c) (nI k) 0 (nI (m + 1))) := hs.tr hld_f
    obtain ⟨⟨r3, M3⟩, c1, c2⟩ := xone (n0 := n0) (x1 := x1) hn (hT.xf f1 nN31) (hld_p (h := 0) r1) ⟨hO.1, Or.inr ⟨k, hk, rfl⟩, Nat.zero_le _, by omega⟩ (by omega) q1
    refine ⟨(s.1 + (gI (hld s.2 (nI c) (nI k) 0 (nI (m + 1))) (128 * gR (hld s.2 (nI c) (nI k) 0 (nI (m + 1))) 1 + 16)).toInt64 * r3, M3), ?_, f1.tr c2⟩
    unfold bX11_countRowsOfTwo_38
    refine eq_f (by rw [q1, T1.1.2.2.1]; exact nI_ge hk (by omega)) (eq_b (z := hld s.2 (nI c) (nI k) 0 (nI (m + 1))) xhold (eq_b c1 ?_))
    rw [show nI k + 1 = nI (k + 1) from nI_add k 1]
    rfl
  · show okP (bX11_countRowsOfTwo_38 n0 (loopN (bX11_countRowsOfTwo_38 n0) (fun _ _ _ _ _ _ => none) w) x1 (nI c) (nI (m + 1)) s.1 (nI T.nt) s.2) _
    have T1 := hT.xf hs nN31
    have q1 : gR s.2 1 = q := by rw [hs.1]; exact h1
    unfold bX11_countRowsOfTwo_38
    exact okP_t (by rw [q1, T1.1.2.2.1]; exact Int32.le_refl _) (okP_some hs)
theorem xbey {n0 q nc nd m d : Nat} {pm : Nat → Int32 × Nat} {s : Nat × List (Nat × Nat)} {X : Mem} (S : SX q nc nd m pm s X) (hm : m ≤ 9999) (hd : d ≤ 100) : fX11_isBeyond n0 (nI d) X = some (bI (9999 - m < d), X) := by
  unfold fX11_isBeyond
  rw [S.2.2.1, show (9999 : Int32) - nI m = nI (9999 - m) from nI_subN hm]
  by_cases z : d ≤ 9999 - m
  · rw [bI_f (by omega)]; exact eq_t (nI_le z (by omega)) rfl
  · rw [bI_t (by omega)]; exact eq_f (nI_ge (by omega) (by omega)) rfl
theorem in12 (x : Int32) (h1 : ¬ x < 1) (h2 : ¬ (2 : Int32) < x) : ∃ k, 1 ≤ k ∧ k ≤ 2 ∧ x = nI k := by
  rcases in_or (n := 3) x (by decide) with ⟨k, hk, rfl⟩ | z
  · refine ⟨k, ?_, by omega, rfl⟩
    rcases Nat.lt_or_ge k 1 with y | y
    · exact absurd (nI_lt (b := 1) y (by decide)) h1
    · exact y
  · exfalso
    rw [i_lt] at h1 h2
    have a1 : (1 : Int32).toInt = 1 := rfl
    have a2 : (2 : Int32).toInt = 2 := rfl
    rcases z with z | z
    · rw [i_lt] at z
      have a0 : (0 : Int32).toInt = 0 := rfl
      omega
    · rw [i_le] at z
      have a3 : (nI 3).toInt = 3 := rfl
      omega
theorem xodds {n0 q b : Nat} {T : TP} {nr C m : Nat} {pm : Nat → Int32 × Nat} {s : Nat × List (Nat × Nat)} {x y z : Int32} {MX MY : Mem} (hn : 1700 ≤ n0) (h : RR n0 q b T nr C m pm s MX MY) : okP (fX11_odds n0 x y z MX) (fun u => XF scA MX u.2) := by
  obtain ⟨h1, h2, h3, h4, _⟩ := id h
  obtain ⟨o1, o2, o3, _⟩ := h1.2.2.2.1.2.1
  have hm := h2.1
  have e0 : ∀ {v : Int64}, okP (some (v, MX)) (fun u => XF scA MX u.2) := okP_some XF.r
  unfold fX11_odds
  rcases isCo h1 x with ⟨c, hc, rfl, e1, _⟩ | ⟨_, e1, _⟩
  · refine okP_be e1 (okP_f (show ¬ (1 : Int32) = 0 by decide) (okP_ite (fun _ => e0) (fun _ => okP_ite (fun _ => e0) (fun z1 => okP_ite (fun _ => e0) (fun z2 => ?_)))))
    obtain ⟨k, k1, k2, rfl⟩ := in12 z z1 z2
    refine okP_be (xbey h3 hm (by omega)) (okP_ite (fun z3 => okP_ite (fun _ => e0) (fun _ => okP_ite (fun _ => okP_ite (fun _ => okP_bnd (okP_ite (fun _ => e0) (fun _ => e0))) (fun _ => ?_)) (fun _ => e0))) (fun _ => e0))
    have z4 : ¬ 9999 - m < k := fun u => by
      have z3' : bI (9999 - m < k) = 0 := z3
      rw [bI_t u] at z3'
      exact absurd z3' (by decide)
    have f1 : XF noN MX (hld MX (nI c) (pm c).1 (nI (pm c).2) (nI m)) := hld_f
    have pO := h2.2.1 c hc
    refine okP_be (xlook h3 o2 hc) (okP_ite (fun _ => ?_) (fun z5 => ?_))
    · obtain ⟨⟨r, X⟩, a1, a2⟩ := xone (n0 := n0) (x1 := y) hn (h1.2.2.2.1.xf f1 nN31) (hld_p h3.1) ⟨by omega, pO.1, pO.2, by omega⟩ (by omega) h1.2.1
      exact okP_be a1 (okP_some (f1.tr a2).n)
    · have k3 : k = 2 := by
        rcases Nat.lt_or_ge k 2 with u | u
        · exact absurd (show nI k = 1 by rw [show k = 1 by omega]; rfl) z5
        · omega
      obtain ⟨⟨r, X⟩, a1, a2⟩ := xtwo (n0 := n0) (x1 := y) hn (h1.2.2.2.1.xf f1 nN31) (hld_p h3.1) ⟨by omega, pO.1, pO.2, by omega⟩ (by omega) h1.2.1
      exact okP_be a1 (okP_some (f1.tr a2).n)
  · exact okP_be e1 (okP_t rfl e0)
abbrev yoL (n0 : Nat) (k94 : Int32 → Int32 → Int32 → Int32 → Int32 → Int64 → Int32 → Mem → Option (Int64 × Mem)) : Nat → Int32 → Int32 → Int32 → Int32 → Int32 → Int64 → Int32 → Int64 → Int32 → Int32 → Mem → Option (Int64 × Mem) := loopN (bX12_odds_117 n0 k94) (fun _ _ _ _ _ _ _ _ _ _ _ => none)
theorem yo117 {n0 b c m n : Nat} {T : TP} {x2 x5 x8 : Int32} {y6 : Int64} {s : Nat × List (Nat × Nat)} {k94 : Int32 → Int32 → Int32 → Int32 → Int32 → Int64 → Int32 → Mem → Option (Int64 × Mem)} (hn : 1700 ≤ n0) (hc : c < T.nc) (hs : sOk T.nd s) (hm : m + n ≤ 9999) (h0 : 0 < T.nt) : ∀ w j (y9 : Int64) v M (pm : Nat → Int32 × Nat), j ≤ n → n < w + j → v ≤ 1000 → YT n0 b T M → LyD 1 T.nc (m + j) pm s M → PsO T.nt T.nc pm → n ≤ 2 → ∃ y M', yoL n0 k94 w (nI c) x2 (nI n) (nI (T.nc * T.nt)) x5 y6 x8 y9 (nI v) (nI j) M = k94 (nI c) x2 (nI n) (nI (T.nc * T.nt)) x5 y (x8 + 1) M' ∧ YF (lP 1) M M'
  | 0, j, _, _, _, _, hj, hw, _, _, _, _, _ => by omega
  | w + 1, j, y9, v, M, pm, hj, hw, hv, hY, hL, hO, h2 => by
    show ∃ y M', bX12_odds_117 n0 k94 (yoL n0 k94 w) (nI c) x2 (nI n) (nI (T.nc * T.nt)) x5 y6 x8 y9 (nI v) (nI j) M = _ ∧ _
    obtain ⟨o1, o2, o3, _⟩ := hY.2.1
    have hl := hs.l
    have w30 : T.nc * T.nt ≤ 30 := Nat.le_trans (Nat.mul_le_mul o2 o1) (by decide)
    unfold bX12_odds_117
    by_cases g : j = n
    · subst g
      by_cases z : x2 = -1
      · exact ⟨_, M, eq_t (Int32.le_refl _) (eq_t z rfl), YF.r⟩
      · obtain ⟨_, M2, e1, e2⟩ := yhr hY (v := 1) (by decide) hL.1 hO (by omega) hc
        by_cases u : nI (T.hF c (pm c).1 (pm c).2 (m + j)) = x2
        · exact ⟨_, M2, eq_t (Int32.le_refl _) (eq_f z (eq_b e1 (eq_t u rfl))), e2.y⟩
        · exact ⟨_, M2, eq_t (Int32.le_refl _) (eq_f z (eq_b e1 (eq_f u rfl))), e2.y⟩
    · have g1 : nI (T.nc * T.nt) + 1 = nI (T.nc * T.nt + 1) := nI_add _ 1
      have gd : ¬ nI (T.nc * T.nt + 1) = 0 := nI_ne0 (by omega) (by omega)
      have er : rem32 (nI v) (nI (T.nc * T.nt + 1)) = nI (v % (T.nc * T.nt + 1)) := rem_nI (by omega) (by omega)
      have ed : nI v / nI (T.nc * T.nt + 1) = nI (v / (T.nc * T.nt + 1)) := nI_div (by omega) (by omega)
      have hdv : v / (T.nc * T.nt + 1) ≤ 1000 := Nat.le_trans (Nat.div_le_self _ _) hv
      have hrv : v % (T.nc * T.nt + 1) < T.nc * T.nt + 1 := Nat.mod_lt _ (by omega)
      obtain ⟨M1, a1, a2, a3⟩ := ytickD (v := 1) hn hY (by decide) hL hO hs (by omega)
      have j1 : nI j + 1 = nI (j + 1) := nI_add j 1
      have fin : ∀ M2 (pm2 : Nat → Int32 × Nat), LyD 1 T.nc (m + j + 1) pm2 s M2 → PsO T.nt T.nc pm2 → YF (lP 1) M M2 → ∃ y M', fX12_odds_182 n0 k94 (yoL n0 k94 w) (nI c) x2 (nI n) (nI (T.nc * T.nt)) x5 y6 x8 y9 (nI (v / (T.nc * T.nt + 1))) (nI j) (nI (v % (T.nc * T.nt + 1))) M2 = k94 (nI c) x2 (nI n) (nI (T.nc * T.nt)) x5 y (x8 + 1) M' ∧ YF (lP 1) M M' := fun M2 pm2 L2 O2 f2 => by
        have Y2 := hY.yf f2 lP28
        have o13 : ¬ oob (gI M2 13) 2 := by rw [Y2.2.2.2.1]; exact nI_in (by have := Y2.2.2.1; omega) (by decide)
        unfold fX12_odds_182 fX12_odds_220
        by_cases z : nI (T.nc * T.nt) ≤ nI (v % (T.nc * T.nt + 1))
        · obtain ⟨y, M', b1, b2⟩ := yo117 hn hc hs hm h0 w (j + 1) (y9 * ((((100 : Int32) - (gA M2 13 (Int32.toNatClampNeg (gI M2 13)))) * nI (T.nc * T.nt))).toInt64) (v / (T.nc * T.nt + 1)) M2 pm2 (by omega) (by omega) hdv Y2 L2 O2 h2
          exact ⟨y, M', eq_t z (eq_f o13 (by rw [j1]; exact b1)), f2.tr b2⟩
        · obtain ⟨y, M', b1, b2⟩ := yo117 hn hc hs hm h0 w (j + 1) (y9 * (gA M2 13 (Int32.toNatClampNeg (gI M2 13))).toInt64) (v / (T.nc * T.nt + 1)) M2 pm2 (by omega) (by omega) hdv Y2 L2 O2 h2
          exact ⟨y, M', eq_f z (eq_f o13 (by rw [j1]; exact b1)), f2.tr b2⟩
      have Y1 := hY.yf a3 lP28
      have o13 : ¬ oob (gI M1 13) 2 := by rw [Y1.2.2.2.1]; exact nI_in (by have := Y1.2.2.1; omega) (by decide)
      have nt1 : gA M1 2 (Int32.toNatClampNeg (gI M1 13)) = nI T.nt := by
        rw [Y1.2.2.2.1, nI_clamp (by have := Y1.2.2.1; omega)]; exact Y1.2.2.2.2.1
      have O1 : PsO T.nt T.nc (nxP T (m + j) pm) := fun c hc => tk_ok (hO c hc)
      rw [g1, er, ed]
      by_cases z : T.nc * T.nt ≤ v % (T.nc * T.nt + 1)
      · obtain ⟨y, M', b1, b2⟩ := fin M1 _ a2 O1 a3
        exact ⟨y, M', eq_f (nI_ge (by omega) (by omega)) (eq_f gd (eq_n (eq_f gd (eq_n (eq_b a1 (eq_t (nI_le z (by omega)) b1)))))), b2⟩
      · have q1 : v % (T.nc * T.nt + 1) / T.nt < T.nc := (Nat.div_lt_iff_lt_mul h0).mpr (by omega)
        have q2 : v % (T.nc * T.nt + 1) % T.nt < T.nt := Nat.mod_lt _ h0
        have ntn : ¬ nI T.nt = 0 := nI_ne0 (by omega) (by omega)
        obtain ⟨M2, c1, c2, c3⟩ := yput1 (n0 := n0) (t := nI (v % (T.nc * T.nt + 1) % T.nt)) a2 o2 q1
        obtain ⟨y, M', b1, b2⟩ := fin M2 _ c2 (upP_ok O1 ⟨Or.inr ⟨_, q2, rfl⟩, Nat.zero_le _⟩) (a3.tr c3)
        refine ⟨y, M', eq_f (nI_ge (by omega) (by omega)) (eq_f gd (eq_n (eq_f gd (eq_n (eq_b a1 (eq_f (nI_ge (by omega) (by omega)) (eq_f o13 (eq_f (by rw [nt1]; exact ntn) (eq_f o13 (eq_f (by rw [nt1]; exact ntn) (eq_b (z := M2) ?_ b1))))))))))), b2⟩
        rw [nt1, nI_div (by omega) (by omega), rem_nI (by omega) (by omega)]
        exact c1
theorem yodds {n0 q b : Nat} {T : TP} {nr C m : Nat} {pm : Nat → Int32 × Nat} {s : Nat × List (Nat × Nat)} {x y z : Int32} {MX MY : Mem} (hn : 1700 ≤ n0) (h : RR n0 q b T nr C m pm s MX MY) : okP (fX12_odds n0 x y z MY) (fun u => YF scP MY u.2) := by
  obtain ⟨h1, h2, h3, h4, _⟩ := id h
  obtain ⟨o1, o2, o3, _⟩ := h1.2.2.2.1.2.1
  have hm := h2.1
  have hl := h2.2.2.l
  have Y := h1.2.2.2.2.1
  have hb := Y.2.2.1
  have h13 := Y.2.2.2.1
  have o13 : ¬ oob (gI MY 13) 2 := by rw [h13]; exact nI_in (by omega) (by decide)
  have yq : gA MY 2 (gI MY 13).toNatClampNeg = nI T.nt := by rw [h13, nI_clamp (by omega)]; exact Y.2.2.2.2.1
  have yc : gA MY 5 (gI MY 13).toNatClampNeg = nI T.nc := by rw [h13, nI_clamp (by omega)]; exact Y.2.2.2.2.2.1
  have w30 : T.nc * T.nt ≤ 30 := Nat.le_trans (Nat.mul_le_mul o2 o1) (by decide)
  have e0 : ∀ {v : Int64}, okP (some (v, MY)) (fun u => YF scP MY u.2) := okP_some YF.r
  unfold fX12_odds
  rcases isCo h1 x with ⟨c, hc, rfl, _, e2⟩ | ⟨_, _, e2⟩
  · refine okP_be e2 (okP_f (show ¬ (1 : Int32) = 0 by decide) (okP_f o13 (okP_ite (fun _ => e0) (fun z0 => ?_))))
    have h0 : 0 < T.nt := Nat.pos_of_ne_zero (fun u => z0 (by show gA MY 2 _ = 0; rw [yq, u]; rfl))
    have ei : ∃ r, fX12_is n0 y (-1) 23 MY = some (r, MY) := by
      unfold fX12_is
      by_cases u : y < -1
      · exact ⟨_, eq_t u rfl⟩
      · by_cases u2 : (23 : Int32) < y
        · exact ⟨_, eq_f u (eq_t u2 rfl)⟩
        · exact ⟨_, eq_f u (eq_f u2 rfl)⟩
    obtain ⟨r, ei⟩ := ei
    refine okP_be ei (okP_ite (fun _ => e0) (fun _ => ?_))
    rcases yah (n0 := n0) (lo := 1) (hi := 2) z h4.1.1 hm (by decide) (by decide) with ⟨n, n1, n2, n3, rfl, e⟩ | ⟨_, e⟩
    · refine okP_be e (okP_f (show ¬ (1 : Int32) = 0 by decide) (okP_f o13 (okP_f o13 ?_)))
      have ew : gA MY 5 (Int32.toNatClampNeg (gI MY 13)) * gA MY 2 (Int32.toNatClampNeg (gI MY 13)) = nI (T.nc * T.nt) := by rw [yc, yq, nI_mul]
      have lp : ∀ W, W ≤ 1000 → okP (fX12_odds_86 n0 (nI c) y (nI n) (nI (T.nc * T.nt)) (nI W) MY) (fun u => YF scP MY u.2) := fun W hW => by
        unfold fX12_odds_86
        refine lpG (L := fun w k (u : Int64 × Mem) => loopN (bX12_odds_94 n0) (fun _ _ _ _ _ _ _ _ => none) w (nI c) y (nI n) (nI (T.nc * T.nt)) (nI W) u.1 (nI k) u.2) (n := W) (I := fun u => YF (lP 1) MY u.2) (fun w k u hk hu => Or.inr ?_) (fun w u hu => ?_) n0 0 (0, MY) (by omega) (by omega) YF.r
        · show ∃ s', bX12_odds_94 n0 (loopN (bX12_odds_94 n0) (fun _ _ _ _ _ _ _ _ => none) w) (nI c) y (nI n) (nI (T.nc * T.nt)) (nI W) u.1 (nI k) u.2 = _ ∧ _
          have L0 : LyD 0 T.nc m pm s u.2 := h4.fr hu o2 (by omega) (fun a i z y => by unfold lP tP dP at z; unfold lP tP dP at y; omega)
          obtain ⟨Y1, b1, b2, b3⟩ := ycopyD (n0 := n0) (v := 1) (u := 0) hn (by decide) (by decide) (by decide) o2 (by omega) L0
          obtain ⟨v', Y2, c1, c2⟩ := yo117 (n0 := n0) (x2 := y) (x5 := nI W) (x8 := nI k) (y6 := u.1) (k94 := loopN (bX12_odds_94 n0) (fun _ _ _ _ _ _ _ _ => none) w) hn hc h2.2.2 n3 h0 n0 0 1 k Y1 pm (by omega) (by omega) (by omega) (Y.yf (hu.tr b3) lP28) b2 h2.2.1 n2
          refine ⟨(v', Y2), ?_, (hu.tr b3).tr c2⟩
          unfold bX12_odds_94
          refine eq_f (nI_ge hk (by omega)) (eq_b b1 (Eq.trans c1 ?_))
          rw [show nI k + 1 = nI (k + 1) from nI_add k 1]
          rfl
        · show okP (bX12_odds_94 n0 (loopN (bX12_odds_94 n0) (fun _ _ _ _ _ _ _ _ => none) w) (nI c) y (nI n) (nI (T.nc * T.nt)) (nI W) u.1 (nI W) u.2) _
          unfold bX12_odds_94
          exact okP_t (Int32.le_refl _) (okP_some (lsc hu))
      show okP (if nI n = 1 then fX12_odds_86 n0 (nI c) y (nI n) (gA MY 5 (Int32.toNatClampNeg (gI MY 13)) * gA MY 2 (Int32.toNatClampNeg (gI MY 13))) (gA MY 5 (Int32.toNatClampNeg (gI MY 13)) * gA MY 2 (Int32.toNatClampNeg (gI MY 13)) + 1) MY else fX12_odds_86 n0 (nI c) y (nI n) (gA MY 5 (Int32.toNatClampNeg (gI MY 13)) * gA MY 2 (Int32.toNatClampNeg (gI MY 13))) ((gA MY 5 (Int32.toNatClampNeg (gI MY 13)) * gA MY 2 (Int32.toNatClampNeg (gI MY 13)) + 1) * (gA MY 5 (Int32.toNatClampNeg (gI MY 13)) * gA MY 2 (Int32.toNatClampNeg (gI MY 13)) + 1)) MY) _
      rw [ew, show nI (T.nc * T.nt) + 1 = nI (T.nc * T.nt + 1) from nI_add _ 1, nI_mul]
      exact okP_ite (fun _ => lp _ (by omega)) (fun _ => lp _ (Nat.le_trans (Nat.mul_le_mul (show T.nc * T.nt + 1 ≤ 31 by omega) (show T.nc * T.nt + 1 ≤ 31 by omega)) (by decide)))
    · exact okP_be e (okP_t rfl e0)
  · exact okP_be e2 (okP_t rfl e0)
theorem nOdds {n0 : Nat} {x y z : Int32} {MX MY : Mem} (hn : 1700 ≤ n0) (h : R n0 MX MY) : CalL n0 (fX11_odds n0 x y z MX) (fX12_odds n0 x y z MY) := by
  obtain ⟨q, b, T, nr, C, m, pm, s, h⟩ := h
  exact CalL.scr h (xodds hn h) (yodds hn h)
end
section
/-! PLANS COME TO AN END, BY THE CLASS -/
abbrev xpTL (n0 : Nat) : Nat → Int32 → Int32 → Int32 → Mem → Option (Int32 × Mem) := loopN (bX11_tellsWithin_3 n0) (fun _ _ _ _ => none)
theorem xtells {n0 last : Nat} {x1 : Int32} {M : Mem} (hl : last ≤ 60) : ∀ w k, k ≤ last + 1 → last + 1 < w + k → ∃ r, xpTL n0 w x1 (nI last) (nI k) M = some (r, M)
  | 0, k, hk, hw => by omega
  | w + 1, k, hk, hw => by
    show ∃ r, bX11_tellsWithin_3 n0 (xpTL n0 w) x1 (nI last) (nI k) M = _
    unfold bX11_tellsWithin_3
    by_cases g : k = last + 1
    · exact ⟨_, eq_t (nI_lt (by omega) (by omega)) rfl⟩
    · by_cases z : gA M 26 (Int32.toNatClampNeg (nI k)) = x1
      · exact ⟨_, eq_f (fun z => by have := (nI_ltI (a := last) (b := k) (by omega) (by omega)).mp z; omega) (eq_f (nI_in (by omega) (by decide)) (eq_t z rfl))⟩
      · obtain ⟨r, e⟩ := xtells (n0 := n0) (x1 := x1) (M := M) hl w (k + 1) (by omega) (by omega)
        exact ⟨r, eq_f (fun z => by have := (nI_ltI (a := last) (b := k) (by omega) (by omega)).mp z; omega) (eq_f (nI_in (by omega) (by decide)) (eq_f z (by rw [show nI k + 1 = nI (k + 1) from nI_add k 1]; exact e)))⟩
abbrev xpDL (n0 : Nat) : Nat → Int32 → Int32 → Int32 → Int32 → Int32 → Mem → Option (Int32 × Mem) := loopN (bX11_doesAll_3 n0) (fun _ _ _ _ _ _ => none)
theorem xdoes {n0 q last lo : Nat} {x1 x2 : Int32} {T : TP} {M : Mem} (hn : 1700 ≤ n0) (hT : XT n0 q T M) (h1 : gR M 1 = q) (hl : last ≤ 60) (hlo : lo ≤ last + 1) : ∀ w k, k ≤ T.nd → T.nd < w + k → ∃ r, xpDL n0 w x1 x2 (nI lo) (nI last) (nI k) M = some (r, M) ∧ (r = 0 ∨ r = 1)
  | 0, k, hk, hw => by omega
  | w + 1, k, hk, hw => by
    show ∃ r, bX11_doesAll_3 n0 (xpDL n0 w) x1 x2 (nI lo) (nI last) (nI k) M = _ ∧ _
    have o3 := hT.2.1.2.2.1
    have en : gI M (128 * gR M 1 + 12) = nI T.nd := by rw [h1]; exact hT.2.2.2.1
    unfold bX11_doesAll_3
    by_cases g : k = T.nd
    · exact ⟨_, eq_t (by rw [en, g]; exact Int32.le_refl _) rfl, Or.inr rfl⟩
    · obtain ⟨r, e, er⟩ := xdoes (n0 := n0) (x1 := x1) (x2 := x2) hn hT h1 hl hlo w (k + 1) (by omega) (by omega)
      have o : ¬ oob (nI k) 6 := nI_in (by omega) (by decide)
      have nx : fX11_doesAll_86 n0 (xpDL n0 w) x1 x2 (nI lo) (nI last) (nI k) M = some (r, M) := by
        unfold fX11_doesAll_86
        rw [show nI k + 1 = nI (k + 1) from nI_add k 1]
        exact e
      have n43 : fX11_doesAll_43 n0 (xpDL n0 w) x1 x2 (nI lo) (nI last) (nI k) M = some (r, M) := by
        unfold fX11_doesAll_43 fX11_doesAll_44
        exact eq_t rfl nx
      have n44 : ∃ r, fX11_doesAll_44 n0 (xpDL n0 w) x1 x2 (nI lo) (nI last) (nI k) 1 M = some (r, M) ∧ (r = 0 ∨ r = 1) := by
        unfold fX11_doesAll_44
        by_cases z : gA M 13 (Int32.toNatClampNeg (nI k)) = 0
        · obtain ⟨r', e'⟩ := xtells (n0 := n0) (x1 := gA M (gR M 1 + 11) (Int32.toNatClampNeg (nI k))) (M := M) hl n0 lo hlo (by omega)
          have e2 : fX11_tellsWithin n0 (gA M (gR M 1 + 11) (Int32.toNatClampNeg (nI k))) (nI lo) (nI last) M = some (r', M) := e'
          by_cases z2 : r' = 0
          · exact ⟨0, eq_f (show ¬ (1 : Int32) = 0 by decide) (eq_f o (eq_t z (eq_f o (eq_b e2 (eq_t z2 rfl))))), Or.inl rfl⟩
          · exact ⟨r, eq_f (show ¬ (1 : Int32) = 0 by decide) (eq_f o (eq_t z (eq_f o (eq_b e2 (eq_f z2 nx))))), er⟩
        · exact ⟨r, eq_f (show ¬ (1 : Int32) = 0 by decide) (eq_f o (eq_f z nx)), er⟩
      have ng : ¬ gI M (128 * gR M 1 + 12) ≤ nI k := by rw [en]; exact nI_ge (by omega) (by omega)
      by_cases z : ((x2 >>> (nI k &&& 31)) &&& (1 : Int32)) = 1
      · by_cases z2 : gA M (gR M 1 + 10) (Int32.toNatClampNeg (nI k)) = x1
        · obtain ⟨r', e', er'⟩ := n44
          exact ⟨r', eq_f ng (eq_t z (eq_f o (eq_t z2 e'))), er'⟩
        · exact ⟨r, eq_f ng (eq_t z (eq_f o (eq_f z2 n43))), er⟩
      · exact ⟨r, eq_f ng (eq_f z n43), er⟩
/-- what plans stand on, and what they leave -/
def PlI (n0 q : Nat) (T : TP) (m : Nat) (pm : Nat → Int32 × Nat) (s : Nat × List (Nat × Nat)) (M0 M : Mem) : Prop := XF scA M0 M ∧ XT n0 q T M ∧ SX q T.nc T.nd m pm s M ∧ gR M 1 = q
theorem PlI.fr {n0 q m : Nat} {T : TP} {pm : Nat → Int32 × Nat} {s : Nat × List (Nat × Nat)} {M0 M M' : Mem} (h : PlI n0 q T m pm s M0 M) (f : XF scA M M') : PlI n0 q T m pm s M0 M' := ⟨h.1.tr f, h.2.1.xf f scA31, h.2.2.1.fr f (fun a z y => by unfold scA at z; unfold stA at y; omega), by rw [f.1]; exact h.2.2.2⟩
theorem xpalm {n0 q m c most lo h : Nat} {t x2 : Int32} {T : TP} {pm : Nat → Int32 × Nat} {s : Nat × List (Nat × Nat)} {M0 M : Mem} (hn : 1700 ≤ n0) (hm : m ≤ 9999) (hI : PlI n0 q T m pm s M0 M) (hc : c < T.nc) (hp : pOk T.nt (t, h)) (hmo : most ≤ 20) (hlo : lo ≤ 1) : ∃ r M1 M2, fX1_foresee n0 26 (nI most) (hld M (nI c) t (nI h) (nI m)) = some (r, M1) ∧ (∃ v, fX11_doesAll n0 (nI c) x2 (nI lo) r M1 = some (v, M2) ∧ (v = 0 ∨ v = 1)) ∧ PlI n0 q T m pm s M0 M2 := by
  have o2 := hI.2.1.2.1.2.1
  have o3 := hI.2.1.2.1.2.2.1
  have f1 : XF scA M (hld M (nI c) t (nI h) (nI m)) := hld_f
  obtain ⟨M2, e1, e2, e3⟩ := xfor (n0 := n0) (q1 := 26) (most := most) hn (hI.2.1.1.xf f1 scA31) (hld_p hI.2.2.1.1) (by omega) hp hm (by omega) (Or.inl rfl)
  have I2 := (hI.fr f1).fr (e3.wk (fun a z => by unfold scA; omega))
  obtain ⟨v, d1, d2⟩ := xdoes (n0 := n0) (lo := lo) (last := min most (9999 - m)) (x1 := nI c) (x2 := x2) hn I2.2.1 I2.2.2.2 (by omega) (by omega) n0 0 (by omega) (by omega)
  exact ⟨_, M2, M2, e1, ⟨v, d1, d2⟩, I2⟩
theorem xwith {n0 q m c most lo : Nat} {x2 : Int32} {T : TP} {pm : Nat → Int32 × Nat} {s : Nat × List (Nat × Nat)} {M0 M : Mem} (hn : 1700 ≤ n0) (hm : m ≤ 9999) (hO : PsO T.nt T.nc pm) (hI : PlI n0 q T m pm s M0 M) (hc : c < T.nc) (hmo : most ≤ 20) (hlo : lo ≤ 1) : okP (fX11_doesWithout n0 (nI c) x2 (nI lo) (nI most) M) (fun z => PlI n0 q T m pm s M0 z.2) := by
  have o2 := hI.2.1.2.1.2.1
  obtain ⟨r, M1, M2, e1, ⟨v, e2, e3⟩, I2⟩ := xpalm (n0 := n0) (x2 := x2) (lo := lo) hn hm hI hc (hO c hc) hmo hlo
  unfold fX11_doesWithout
  exact okP_be (xlook hI.2.2.1 o2 hc) (okP_be e1 (okP_be e2 (okP_t e3 (okP_some I2))))
abbrev xpFL (n0 : Nat) : Nat → Int32 → Int32 → Int32 → Int32 → Mem → Option (Int32 × Mem) := loopN (bX11_findGiving_3 n0) (fun _ _ _ _ _ => none)
theorem xfind {n0 q m c most : Nat} {x2 : Int32} {T : TP} {pm : Nat → Int32 × Nat} {s : Nat × List (Nat × Nat)} {M0 M : Mem} (hn : 1700 ≤ n0) (hm : m ≤ 9999) (hI : PlI n0 q T m pm s M0 M) (hc : c < T.nc) (hmo : most ≤ 20) : okP (fX11_findGiving n0 (nI c) x2 (nI most) M) (fun z => PlI n0 q T m pm s M0 z.2) := by
  have o1 := hI.2.1.2.1.1
  refine lpG (L := fun w k u => xpFL n0 w (nI c) x2 (nI most) (nI k) u) (n := T.nt) (I := fun u => PlI n0 q T m pm s M0 u) (fun w k u hk hu => ?_) (fun w u hu => ?_) n0 0 M (by omega) (by omega) hI
  · show okP (bX11_findGiving_3 n0 (xpFL n0 w) (nI c) x2 (nI most) (nI k) u) _ ∨ ∃ s', bX11_findGiving_3 n0 (xpFL n0 w) (nI c) x2 (nI most) (nI k) u = _ ∧ _
    have en : gI u (128 * gR u 1 + 1) = nI T.nt := by rw [hu.2.2.2]; exact hu.2.1.1.2.2.1
    have ng : ¬ gI u (128 * gR u 1 + 1) ≤ nI k := by rw [en]; exact nI_ge (by omega) (by omega)
    have eh : fX1_hold n0 (nI c) (nI k) 0 (gI u 1281) u = some (hld u (nI c) (nI k) (nI 0) (nI m)) := by rw [hu.2.2.1.2.2.1]; exact xhold
    obtain ⟨r, M1, M2, e1, ⟨v, e2, e3⟩, I2⟩ := xpalm (n0 := n0) (x2 := x2) (lo := 0) (t := nI k) (h := 0) hn hm hu hc ⟨Or.inr ⟨k, hk, rfl⟩, Nat.zero_le _⟩ hmo (by decide)
    unfold bX11_findGiving_3
    by_cases z : v = 0
    · exact Or.inr ⟨M2, eq_f ng (eq_b eh (eq_b e1 (eq_b e2 (eq_t z (by rw [show nI k + 1 = nI (k + 1) from nI_add k 1]))))), I2⟩
    · exact Or.inl (okP_f ng (okP_be eh (okP_be e1 (okP_be e2 (okP_f z (okP_some I2))))))
  · show okP (bX11_findGiving_3 n0 (xpFL n0 w) (nI c) x2 (nI most) (nI T.nt) u) _
    have en : gI u (128 * gR u 1 + 1) = nI T.nt := by rw [hu.2.2.2]; exact hu.2.1.1.2.2.1
    unfold bX11_findGiving_3
    exact okP_t (by rw [en]; exact Int32.le_refl _) (okP_some hu)
theorem PlI.a28 {n0 q m i : Nat} {v : Int32} {T : TP} {pm : Nat → Int32 × Nat} {s : Nat × List (Nat × Nat)} {M0 M : Mem} (h : PlI n0 q T m pm s M0 M) : PlI n0 q T m pm s M0 (sA M 28 i v) := h.fr (XF.r.a (by unfold scA; omega))
theorem PlI.nc {n0 q m : Nat} {T : TP} {pm : Nat → Int32 × Nat} {s : Nat × List (Nat × Nat)} {M0 M : Mem} (h : PlI n0 q T m pm s M0 M) : gI M (128 * gR M 1 + 5) = nI T.nc := by rw [h.2.2.2]; exact h.2.1.2.2.1
theorem xnoth {n0 q m most : Nat} {x1 : Int32} {T : TP} {pm : Nat → Int32 × Nat} {s : Nat × List (Nat × Nat)} {M0 M : Mem} (hn : 1700 ≤ n0) (hm : m ≤ 9999) (hO : PsO T.nt T.nc pm) (hI : PlI n0 q T m pm s M0 M) (hmo : most ≤ 20) : okP (fX11_planNothing n0 x1 (nI most) M) (fun z => PlI n0 q T m pm s M0 z.2) := by
  have o2 := hI.2.1.2.1.2.1
  have l28 : ∀ M1, PlI n0 q T m pm s M0 M1 → okP (fX11_planNothing_28 n0 x1 (nI most) 0 M1) (fun z => PlI n0 q T m pm s M0 z.2) := fun M1 I1 => by
    refine lpG (L := fun w k u => loopN (bX11_planNothing_28 n0) (fun _ _ _ _ => none) w x1 (nI most) (nI k) u) (n := T.nc) (I := fun u => PlI n0 q T m pm s M0 u) (fun w k u hk hu => ?_) (fun w u hu => ?_) n0 0 M1 (by omega) (by omega) I1
    · show okP (bX11_planNothing_28 n0 (loopN (bX11_planNothing_28 n0) (fun _ _ _ _ => none) w) x1 (nI most) (nI k) u) _ ∨ ∃ s', bX11_planNothing_28 n0 (loopN (bX11_planNothing_28 n0) (fun _ _ _ _ => none) w) x1 (nI most) (nI k) u = _ ∧ _
      have ng : ¬ gI u (128 * gR u 1 + 5) ≤ nI k := by rw [hu.nc]; exact nI_ge (by omega) (by omega)
      obtain ⟨⟨r, M2⟩, e1, I2⟩ := xwith (n0 := n0) (x2 := x1) (lo := 1) hn hm hO hu hk hmo (by decide)
      unfold bX11_planNothing_28
      by_cases z : r = 0
      · exact Or.inl (okP_f ng (okP_be e1 (okP_t z (okP_some I2))))
      · exact Or.inr ⟨M2, eq_f ng (eq_b e1 (eq_f z (by rw [show nI k + 1 = nI (k + 1) from nI_add k 1]))), I2⟩
    · show okP (bX11_planNothing_28 n0 (loopN (bX11_planNothing_28 n0) (fun _ _ _ _ => none) w) x1 (nI most) (nI T.nc) u) _
      unfold bX11_planNothing_28
      exact okP_t (by rw [hu.nc]; exact Int32.le_refl _) (okP_some hu)
  refine lpG (L := fun w k u => loopN (bX11_planNothing_2 n0) (fun _ _ _ _ => none) w x1 (nI most) (nI k) u) (n := T.nc) (I := fun u => PlI n0 q T m pm s M0 u) (fun w k u hk hu => Or.inr ?_) (fun w u hu => ?_) n0 0 M (by omega) (by omega) hI
  · show ∃ s', bX11_planNothing_2 n0 (loopN (bX11_planNothing_2 n0) (fun _ _ _ _ => none) w) x1 (nI most) (nI k) u = _ ∧ _
    have ng : ¬ gI u (128 * gR u 1 + 5) ≤ nI k := by rw [hu.nc]; exact nI_ge (by omega) (by omega)
    refine ⟨sA u 28 (Int32.toNatClampNeg (nI k)) (-1), ?_, hu.a28⟩
    unfold bX11_planNothing_2
    exact eq_f ng (eq_f (nI_in (by omega) (by decide)) (eq_n (by rw [show nI k + 1 = nI (k + 1) from nI_add k 1])))
  · show okP (bX11_planNothing_2 n0 (loopN (bX11_planNothing_2 n0) (fun _ _ _ _ => none) w) x1 (nI most) (nI T.nc) u) _
    unfold bX11_planNothing_2
    exact okP_t (by rw [hu.nc]; exact Int32.le_refl _) (l28 u hu)
theorem xneed {n0 q m most : Nat} {x1 : Int32} {T : TP} {pm : Nat → Int32 × Nat} {s : Nat × List (Nat × Nat)} {M0 M : Mem} (hn : 1700 ≤ n0) (hm : m ≤ 9999) (hO : PsO T.nt T.nc pm) (hI : PlI n0 q T m pm s M0 M) (hmo : most ≤ 20) : okP (fX11_planNeeded n0 x1 (nI most) M) (fun z => PlI n0 q T m pm s M0 z.2) := by
  have o2 := hI.2.1.2.1.2.1
  refine lpG (L := fun w k u => loopN (bX11_planNeeded_2 n0) (fun _ _ _ _ => none) w x1 (nI most) (nI k) u) (n := T.nc) (I := fun u => PlI n0 q T m pm s M0 u) (fun w k u hk hu => ?_) (fun w u hu => ?_) n0 0 M (by omega) (by omega) hI
  · show okP (bX11_planNeeded_2 n0 (loopN (bX11_planNeeded_2 n0) (fun _ _ _ _ => none) w) x1 (nI most) (nI k) u) _ ∨ ∃ s', bX11_planNeeded_2 n0 (loopN (bX11_planNeeded_2 n0) (fun _ _ _ _ => none) w) x1 (nI most) (nI k) u = _ ∧ _
    have ng : ¬ gI u (128 * gR u 1 + 5) ≤ nI k := by rw [hu.nc]; exact nI_ge (by omega) (by omega)
    have o : ¬ oob (nI k) 5 := nI_in (by omega) (by decide)
    have k1 : nI k + 1 = nI (k + 1) := nI_add k 1
    obtain ⟨⟨r, M2⟩, e1, I2⟩ := xwith (n0 := n0) (x2 := x1) (lo := 0) hn hm hO hu hk hmo (by decide)
    unfold bX11_planNeeded_2 fX11_planNeeded_49
    by_cases z : r = 0
    · obtain ⟨⟨r2, M3⟩, e2, I3⟩ := xfind (n0 := n0) (x2 := x1) hn hm I2 hk hmo
      have I4 : PlI n0 q T m pm s M0 (sA M3 28 (Int32.toNatClampNeg (nI k)) r2) := PlI.a28 I3
      by_cases z2 : gA (sA M3 28 (Int32.toNatClampNeg (nI k)) r2) 28 (Int32.toNatClampNeg (nI k)) = -1
      · exact Or.inl (okP_f ng (okP_be e1 (okP_t z (okP_be e2 (okP_f o (okP_bnd (okP_f o (okP_t z2 (okP_some I4)))))))))
      · exact Or.inr ⟨_, eq_f ng (eq_b e1 (eq_t z (eq_b e2 (eq_f o (eq_n (eq_f o (eq_f z2 (by rw [k1])))))))), I4⟩
    · exact Or.inr ⟨M2, eq_f ng (eq_b e1 (eq_f z (by rw [k1]))), I2⟩
  · show okP (bX11_planNeeded_2 n0 (loopN (bX11_planNeeded_2 n0) (fun _ _ _ _ => none) w) x1 (nI most) (nI T.nc) u) _
    unfold bX11_planNeeded_2
    exact okP_t (by rw [hu.nc]; exact Int32.le_refl _) (okP_some hu)
theorem xcnt {n0 q m : Nat} {T : TP} {pm : Nat → Int32 × Nat} {s : Nat × List (Nat × Nat)} {M0 M : Mem} (hn : 1700 ≤ n0) (hI : PlI n0 q T m pm s M0 M) : ∃ r, fX11_countPlanned n0 M = some (r, M) := by
  have o2 := hI.2.1.2.1.2.1
  have l : okP (fX11_countPlanned n0 M) (fun z => z.2 = M) := by
    refine lpG (L := fun w k (u : Int32) => loopN (bX11_countPlanned_4 n0) (fun _ _ _ => none) w u (nI k) M) (n := T.nc) (I := fun _ => True) (fun w k u hk _ => Or.inr ?_) (fun w u _ => ?_) n0 0 (0 : Int32) (by omega) (by omega) trivial
    · show ∃ s', bX11_countPlanned_4 n0 (loopN (bX11_countPlanned_4 n0) (fun _ _ _ => none) w) u (nI k) M = _ ∧ _
      have ng : ¬ gI M (128 * gR M 1 + 5) ≤ nI k := by rw [hI.nc]; exact nI_ge (by omega) (by omega)
      have k1 : nI k + 1 = nI (k + 1) := nI_add k 1
      unfold bX11_countPlanned_4 fX11_countPlanned_28
      by_cases z : gA M 28 (Int32.toNatClampNeg (nI k)) = -1
      · exact ⟨u, eq_f ng (eq_f (nI_in (by omega) (by decide)) (eq_t z (by rw [k1]))), trivial⟩
      · exact ⟨u + 1, eq_f ng (eq_f (nI_in (by omega) (by decide)) (eq_f z (by rw [k1]))), trivial⟩
    · show okP (bX11_countPlanned_4 n0 (loopN (bX11_countPlanned_4 n0) (fun _ _ _ => none) w) u (nI T.nc) M) _
      unfold bX11_countPlanned_4
      exact okP_t (by rw [hI.nc]; exact Int32.le_refl _) (okP_some rfl)
  obtain ⟨⟨r, M'⟩, a, e⟩ := l
  have e' : M' = M := e
  exact ⟨r, by rw [a, e']⟩
theorem nI_dn (k : Nat) : nI k + (-1 : Int32) = nI k - 1 := by rw [Int32.sub_eq_add_neg]
abbrev xpAL (n0 : Nat) : Nat → Int32 → Int32 → Int32 → Mem → Option (Int32 × Mem) := loopN (bX11_planAnywhere_10 n0) (fun _ _ _ _ => none)
theorem xanyw {n0 q m most : Nat} {x1 : Int32} {T : TP} {pm : Nat → Int32 × Nat} {s : Nat × List (Nat × Nat)} {M0 : Mem} (hn : 1700 ≤ n0) (hm : m ≤ 9999) (hmo : most ≤ 20) : ∀ w k M, k < w → k ≤ T.nc → PlI n0 q T m pm s M0 M → okP (xpAL n0 w x1 (nI most) (nI k - 1) M) (fun z => PlI n0 q T m pm s M0 z.2)
  | 0, k, M, hw, _, _ => by omega
  | w + 1, 0, M, hw, hk, hI => by
    show okP (bX11_planAnywhere_10 n0 (xpAL n0 w) x1 (nI most) (nI 0 - 1) M) _
    unfold bX11_planAnywhere_10
    exact okP_t (by decide) (okP_some hI)
  | w + 1, k + 1, M, hw, hk, hI => by
    show okP (bX11_planAnywhere_10 n0 (xpAL n0 w) x1 (nI most) (nI (k + 1) - 1) M) _
    have o2 := hI.2.1.2.1.2.1
    have e0 : nI (k + 1) - 1 = nI k := by rw [show (1 : Int32) = nI 1 from rfl, nI_subN (by omega)]; rfl
    have o : ¬ oob (nI k) 5 := nI_in (by omega) (by decide)
    rw [e0]
    obtain ⟨⟨r2, M3⟩, e2, I3⟩ := xfind (n0 := n0) (x2 := x1) hn hm hI (show k < T.nc by omega) hmo
    have I4 : PlI n0 q T m pm s M0 (sA M3 28 (Int32.toNatClampNeg (nI k)) r2) := PlI.a28 I3
    unfold bX11_planAnywhere_10
    refine okP_f (nI_nn (by omega)) (okP_be e2 (okP_f o (okP_bnd (okP_f o (okP_ite (fun _ => ?_) (fun _ => okP_some I4))))))
    rw [nI_dn]
    exact xanyw hn hm hmo w k _ (by omega) (by omega) I4
theorem xplan {n0 q b : Nat} {T : TP} {nr C m : Nat} {pm : Nat → Int32 × Nat} {s : Nat × List (Nat × Nat)} {x y z : Int32} {MX MY : Mem} (hn : 1700 ≤ n0) (h : RR n0 q b T nr C m pm s MX MY) : okP (fX11_plan n0 x y z MX) (fun u => XF scA MX u.2) := by
  obtain ⟨h1, h2, h3, h4, _⟩ := id h
  obtain ⟨o1, o2, o3, _⟩ := h1.2.2.2.1.2.1
  have hm := h2.1
  have e0 : ∀ {v : Int32}, okP (some (v, MX)) (fun u => XF scA MX u.2) := okP_some XF.r
  have I0 : PlI n0 q T m pm s MX MX := ⟨XF.r, h1.2.2.2.1, h3, h1.2.1⟩
  unfold fX11_plan
  refine okP_ite (fun _ => e0) (fun _ => okP_ite (fun _ => e0) (fun _ => okP_ite (fun _ => e0) (fun z1 => okP_ite (fun _ => e0) (fun z2 => ?_))))
  have ym : ∃ k, k ≤ 20 ∧ y = nI k := by
    rcases in_or (n := 21) y (by decide) with ⟨k, hk, rfl⟩ | u
    · exact ⟨k, by omega, rfl⟩
    · exfalso
      rcases u with u | u
      · exact z1 u
      · rw [i_lt] at z2
        rw [i_le] at u
        have a1 : (20 : Int32).toInt = 20 := rfl
        have a2 : (nI 21).toInt = 21 := rfl
        omega
  obtain ⟨mo, hmo, rfl⟩ := ym
  have n94 : ∀ (u0 : Int32) M, (z = -1 ∨ ∃ c, c < 5 ∧ z = nI c) → PlI n0 q T m pm s MX M → okP (fX11_plan_94 n0 z u0 M) (fun u => XF scA MX u.2) := fun u0 M hz hI => by
    obtain ⟨r, er⟩ := xcnt (n0 := n0) hn hI
    unfold fX11_plan_94
    refine okP_ite (fun _ => okP_some hI.1) (fun _ => okP_ite (fun _ => okP_be er (okP_some hI.1)) (fun z3 => ?_))
    rcases hz with hz | ⟨c, hc, rfl⟩
    · exact absurd hz z3
    · exact okP_f (nI_in hc (by decide)) (okP_some hI.1)
  have n55 : (z = -1 ∨ ∃ c, c < 5 ∧ z = nI c) → okP (fX11_plan_55 n0 x (nI mo) z MX) (fun u => XF scA MX u.2) := fun hz => by
    unfold fX11_plan_55 fX11_plan_89 fX11_plan_93
    refine okP_bind (xnoth hn hm h2.2.1 I0 hmo) (fun u1 I1 => okP_ite (fun _ => ?_) (fun _ => n94 _ _ hz I1))
    refine okP_bind (xneed hn hm h2.2.1 I1 hmo) (fun u2 I2 => okP_ite (fun _ => n94 _ _ hz I2) (fun _ => ?_))
    obtain ⟨r, er⟩ := xcnt (n0 := n0) hn I2
    refine okP_be er (okP_ite (fun _ => n94 _ _ hz I2) (fun _ => ?_))
    have ea : okP (fX11_planAnywhere n0 x (nI mo) u2.2) (fun u => PlI n0 q T m pm s MX u.2) := by
      unfold fX11_planAnywhere
      refine okP_bnd ?_
      rw [I2.nc]
      exact xanyw hn hm hmo n0 T.nc u2.2 (by omega) (Nat.le_refl _) I2
    exact okP_bind ea (fun u3 I3 => okP_ite (fun _ => n94 _ _ hz I3) (fun _ => n94 _ _ hz I3))
  refine okP_be (xbey h3 hm (by omega)) (okP_ite (fun _ => okP_ite (fun z3 => n55 (Or.inl z3)) (fun _ => ?_)) (fun _ => e0))
  rcases isCo h1 z with ⟨c, hc, rfl, e1, _⟩ | ⟨_, e1, _⟩
  · exact okP_be e1 (okP_f (show ¬ (1 : Int32) = 0 by decide) (n55 (Or.inr ⟨c, by omega, rfl⟩)))
  · exact okP_be e1 (okP_t rfl e0)
end
section
/-! PLANS COME TO AN END, BY THE REFERENCE -/
def plP (a i : Nat) : Prop := lP 1 a i ∨ a = 36 ∨ a = 37
theorem plP28 : ∀ a i, plP a i → 28 ≤ a := fun a i z => by unfold plP lP tP dP at z; omega
theorem plPsc {M M' : Mem} (f : YF plP M M') : YF scP M M' := f.wk (fun a i z => by
  rcases z with z | z | z
  · exact Or.inl z
  · exact Or.inr (by omega)
  · exact Or.inr (by omega))
theorem plP1 {M M' : Mem} (f : YF (lP 1) M M') : YF plP M M' := f.wk (fun a i z => Or.inl z)
def gvC (T : TP) (M : Mem) (k : Nat) : Prop := ∀ c, k ≤ c → c < T.nc → tOk T.nt (gA M 36 c)
theorem gvC.fr {T : TP} {M M' : Mem} {k : Nat} (h : gvC T M k) (f : YF (lP 1) M M') : gvC T M' k := fun c h1 h2 => by
  rw [f.2.2.2.1 36 c (by decide) (by unfold lP tP dP; omega)]
  exact h c h1 h2
abbrev y57L (n0 : Nat) : Nat → Int32 → Int32 → Int32 → Mem → Option (Int32 × Mem) := loopN (bX12_isDoneBy_57 n0) (fun _ _ _ _ => none)
theorem y57 {n0 b m n : Nat} {T : TP} {x1 : Int32} (hn : 1700 ≤ n0) (hm : m + n ≤ 9999) : ∀ w j M (pm : Nat → Int32 × Nat) (s : Nat × List (Nat × Nat)), j ≤ n → n < w + j → YT n0 b T M → LyD 1 T.nc (m + j) pm s M → PsO T.nt T.nc pm → sOk T.nd s → okP (y57L n0 w x1 (nI n) (nI j) M) (fun z => YF (lP 1) M z.2)
  | 0, j, M, _, _, hj, hw, _, _, _, _ => by omega
  | w + 1, j, M, pm, s, hj, hw, hY, hL, hO, hs => by
    show okP (bX12_isDoneBy_57 n0 (y57L n0 w) x1 (nI n) (nI j) M) _
    unfold bX12_isDoneBy_57
    by_cases g : j = n
    · exact okP_t (by rw [g]; exact Int32.le_refl _) (okP_f (by decide) (okP_ite (fun _ => okP_some YF.r) (fun _ => okP_some YF.r)))
    · obtain ⟨M1, a1, a2, a3, a4⟩ := ypassD (v := 1) hn hY (by decide) hL hO hs (by omega)
      refine okP_f (nI_ge (by omega) (by omega)) (okP_be a1 ?_)
      rw [show nI j + 1 = nI (j + 1) from nI_add j 1]
      exact okP_mono (y57 hn hm w (j + 1) M1 _ _ (by omega) (by omega) (hY.yf a4 lP28) a2 (nxP_ok hO) a3) (fun z hz => a4.tr hz)
abbrev y8L (n0 : Nat) : Nat → Int32 → Int32 → Int32 → Mem → Option (Int32 × Mem) := loopN (bX12_isDoneBy_8 n0) (fun _ _ _ _ => none)
theorem y8 {n0 b m n : Nat} {T : TP} {x1 : Int32} {s : Nat × List (Nat × Nat)} (hn : 1700 ≤ n0) (hm : m + n ≤ 9999) (h60 : n ≤ 60) (hs : sOk T.nd s) : ∀ w c M (pm : Nat → Int32 × Nat), c ≤ T.nc → T.nc < w + c → YT n0 b T M → LyD 1 T.nc m pm s M → PsO T.nt T.nc pm → gvC T M 0 → okP (y8L n0 w x1 (nI n) (nI c) M) (fun z => YF (lP 1) M z.2)
  | 0, c, M, _, hc, hw, _, _, _, _ => by omega
  | w + 1, c, M, pm, hc, hw, hY, hL, hO, hg => by
    show okP (bX12_isDoneBy_8 n0 (y8L n0 w) x1 (nI n) (nI c) M) _
    have hb := hY.2.2.1
    have o2 := hY.2.1.2.1
    have h13 := hY.2.2.2.1
    have o13 : ¬ oob (gI M 13) 2 := by rw [h13]; exact nI_in (by omega) (by decide)
    have yc : gA M 5 (gI M 13).toNatClampNeg = nI T.nc := by rw [h13, nI_clamp (by omega)]; exact hY.2.2.2.2.2.1
    unfold bX12_isDoneBy_8 fX12_isDoneBy_43
    by_cases g : c = T.nc
    · obtain ⟨M1, a1, a2, a3⟩ := yfinD (v := 1) hn hY (by decide) hL hO hs (by omega)
      refine okP_f o13 (okP_t (by rw [yc, g]; exact Int32.le_refl _) (okP_be a1 ?_))
      exact okP_mono (y57 (n0 := n0) hn hm n0 0 M1 pm _ (by omega) (by omega) (hY.yf a3 lP28) a2 hO (fnS_ok hY.2.1.2.2.1 hs _ (Nat.le_refl _))) (fun z hz => a3.tr hz)
    · have o : ¬ oob (nI c) 5 := nI_in (by omega) (by decide)
      have ck : (nI c).toNatClampNeg = c := nI_clamp (by omega)
      have c1 : nI c + 1 = nI (c + 1) := nI_add c 1
      refine okP_f o13 (okP_f (by rw [yc]; exact nI_ge (by omega) (by omega)) (okP_f o (okP_ite (fun _ => ?_) (fun _ => okP_f o ?_))))
      · rw [c1]
        exact y8 hn hm h60 hs w (c + 1) M pm (by omega) (by omega) hY hL hO hg
      · obtain ⟨M1, a1, a2, a3⟩ := yput1 (n0 := n0) (t := gA M 36 (Int32.toNatClampNeg (nI c))) hL o2 (show c < T.nc by omega)
        refine okP_be a1 ?_
        rw [c1]
        exact okP_mono (y8 hn hm h60 hs w (c + 1) M1 _ (by omega) (by omega) (hY.yf a3 lP28) a2 (upP_ok hO ⟨by rw [ck]; exact hg c (Nat.zero_le _) (by omega), Nat.zero_le _⟩) (hg.fr a3)) (fun z hz => a3.tr hz)
theorem ydone {n0 b m n : Nat} {T : TP} {x1 : Int32} {pm : Nat → Int32 × Nat} {s : Nat × List (Nat × Nat)} {M : Mem} (hn : 1700 ≤ n0) (hm : m + n ≤ 9999) (h60 : n ≤ 60) (hs : sOk T.nd s) (hY : YT n0 b T M) (hL : LyD 0 T.nc m pm s M) (hO : PsO T.nt T.nc pm) (hg : gvC T M 0) : okP (fX12_isDoneBy n0 x1 (nI n) M) (fun z => YF (lP 1) M z.2) := by
  have o2 := hY.2.1.2.1
  obtain ⟨Y1, b1, b2, b3⟩ := ycopyD (n0 := n0) (v := 1) (u := 0) hn (by decide) (by decide) (by decide) o2 hs.l hL
  unfold fX12_isDoneBy
  refine okP_be b1 ?_
  exact okP_mono (y8 (n0 := n0) hn hm h60 hs n0 0 Y1 pm (by omega) (by omega) (hY.yf b3 lP28) b2 hO (hg.fr b3)) (fun z hz => b3.tr hz)
/-- what the plans of the reference stand on -/
def PlY (n0 b : Nat) (T : TP) (m : Nat) (pm : Nat → Int32 × Nat) (s : Nat × List (Nat × Nat)) (M0 M : Mem) : Prop := YF plP M0 M ∧ YT n0 b T M ∧ LyD 0 T.nc m pm s M
theorem PlY.fr {n0 b m : Nat} {T : TP} {pm : Nat → Int32 × Nat} {s : Nat × List (Nat × Nat)} {M0 M M' : Mem} (h : PlY n0 b T m pm s M0 M) (hl : s.2.length ≤ 40) (f : YF plP M M') : PlY n0 b T m pm s M0 M' := ⟨h.1.tr f, h.2.1.yf f plP28, h.2.2.fr f h.2.1.2.1.2.1 hl (fun a i z y => by unfold plP lP tP dP at z; unfold lP tP dP at y; omega)⟩
theorem PlY.o13 {n0 b m : Nat} {T : TP} {pm : Nat → Int32 × Nat} {s : Nat × List (Nat × Nat)} {M0 M : Mem} (h : PlY n0 b T m pm s M0 M) : ¬ oob (gI M 13) 2 := by
  have := h.2.1.2.2.1
  rw [h.2.1.2.2.2.1]; exact nI_in (by omega) (by decide)
theorem PlY.nc {n0 b m : Nat} {T : TP} {pm : Nat → Int32 × Nat} {s : Nat × List (Nat × Nat)} {M0 M : Mem} (h : PlY n0 b T m pm s M0 M) : gA M 5 (Int32.toNatClampNeg (gI M 13)) = nI T.nc := by
  have := h.2.1.2.2.1
  rw [h.2.1.2.2.2.1, nI_clamp (by omega)]; exact h.2.1.2.2.2.2.2.1
theorem PlY.nt {n0 b m : Nat} {T : TP} {pm : Nat → Int32 × Nat} {s : Nat × List (Nat × Nat)} {M0 M : Mem} (h : PlY n0 b T m pm s M0 M) : gA M 2 (Int32.toNatClampNeg (gI M 13)) = nI T.nt := by
  have := h.2.1.2.2.1
  rw [h.2.1.2.2.2.1, nI_clamp (by omega)]; exact h.2.1.2.2.2.2.1
abbrev K95 : Type := Int32 → Int32 → Int32 → Int32 → Int32 → Int32 → Mem → Option (Int32 × Mem)
abbrev y225L (n0 : Nat) (k95 : K95) : Nat → Int32 → Int32 → Int32 → Int32 → Int32 → Int32 → Int32 → Mem → Option (Int32 × Mem) := loopN (bX12_plan_225 n0 k95) (fun _ _ _ _ _ _ _ _ => none)
theorem y225 {n0 b m : Nat} {T : TP} {x1 x2 x3 x4 x5 x6 : Int32} {k95 : K95} {pm : Nat → Int32 × Nat} {s : Nat × List (Nat × Nat)} {M0 M : Mem} (hn : 1700 ≤ n0) (hl : s.2.length ≤ 40) (hI : PlY n0 b T m pm s M0 M) : ∃ M', y225L n0 k95 n0 x1 x2 x3 x4 x5 x6 (nI 0) M = k95 x1 x2 x3 x4 x5 (x6 + 1) M' ∧ PlY n0 b T m pm s M0 M' := by
  have o2 := hI.2.1.2.1.2.1
  refine lpC (L := fun w k u => y225L n0 k95 w x1 x2 x3 x4 x5 x6 (nI k) u) (F := fun u => k95 x1 x2 x3 x4 x5 (x6 + 1) u) (n := T.nc) (I := fun u => PlY n0 b T m pm s M0 u) (fun w k u hk hu => ?_) (fun w u hu => ?_) n0 0 M (by omega) (by omega) hI
  · show ∃ s', bX12_plan_225 n0 k95 (y225L n0 k95 w) x1 x2 x3 x4 x5 x6 (nI k) u = _ ∧ _
    have o : ¬ oob (nI k) 5 := nI_in (by omega) (by decide)
    refine ⟨sA u 37 (Int32.toNatClampNeg (nI k)) (gA u 36 (Int32.toNatClampNeg (nI k))), ?_, hu.fr hl (YF.r.a (Or.inr (Or.inr rfl)))⟩
    unfold bX12_plan_225
    exact eq_f hu.o13 (eq_f (by rw [hu.nc]; exact nI_ge (by omega) (by omega)) (eq_f o (eq_f o (eq_n (by rw [show nI k + 1 = nI (k + 1) from nI_add k 1])))))
  · show ∃ s', bX12_plan_225 n0 k95 (y225L n0 k95 w) x1 x2 x3 x4 x5 x6 (nI T.nc) u = _ ∧ _
    refine ⟨u, ?_, hu⟩
    unfold bX12_plan_225 fX12_plan_259
    exact eq_f hu.o13 (eq_t (by rw [hu.nc]; exact Int32.le_refl _) rfl)
abbrev y122L (n0 : Nat) (k95 : K95) : Nat → Int32 → Int32 → Int32 → Int32 → Int32 → Int32 → Int32 → Int32 → Int32 → Mem → Option (Int32 × Mem) := loopN (bX12_plan_122 n0 k95) (fun _ _ _ _ _ _ _ _ _ _ => none)
theorem y122 {n0 b m n : Nat} {T : TP} {x1 x3 x4 x5 x6 : Int32} {k95 : K95} {pm : Nat → Int32 × Nat} {s : Nat × List (Nat × Nat)} {M0 : Mem} (hn : 1700 ≤ n0) (hm : m + n ≤ 9999) (h60 : n ≤ 60) (hs : sOk T.nd s) (hO : PsO T.nt T.nc pm) : ∀ w k v (x8 : Int32) M, k < w → k ≤ T.nc → v ≤ 20000 → PlY n0 b T m pm s M0 M → gvC T M k → ∃ y M', y122L n0 k95 w x1 (nI n) x3 x4 x5 x6 (nI v) x8 (nI k - 1) M = k95 x1 (nI n) x3 x4 y (x6 + 1) M' ∧ PlY n0 b T m pm s M0 M'
  | 0, k, v, _, M, hw, _, _, _, _ => by omega
  | w + 1, 0, v, x8, M, hw, hk, hv, hI, hg => by
    show ∃ y M', bX12_plan_122 n0 k95 (y122L n0 k95 w) x1 (nI n) x3 x4 x5 x6 (nI v) x8 (nI 0 - 1) M = _ ∧ _
    have hl := hs.l
    have n206 : ∃ y M', fX12_plan_206 n0 k95 x1 (nI n) x3 x4 x5 x6 x8 M = k95 x1 (nI n) x3 x4 y (x6 + 1) M' ∧ PlY n0 b T m pm s M0 M' := by
      obtain ⟨⟨r, M1⟩, a1, a2⟩ := ydone (n0 := n0) (x1 := x1) hn hm h60 hs hI.2.1 hI.2.2 hO hg
      have I1 : PlY n0 b T m pm s M0 M1 := hI.fr (by omega) (plP1 a2)
      unfold fX12_plan_206 fX12_plan_259
      by_cases z : r = 0
      · exact ⟨x5, M1, eq_b a1 (eq_t z rfl), I1⟩
      · obtain ⟨M2, b1, b2⟩ := y225 (n0 := n0) (x1 := x1) (x2 := nI n) (x3 := x3) (x4 := x4) (x5 := x8) (x6 := x6) (k95 := k95) hn (by omega) I1
        exact ⟨x8, M2, eq_b a1 (eq_f z b1), b2⟩
    unfold bX12_plan_122
    by_cases z : x5 = -1
    · obtain ⟨y, M', c1, c2⟩ := n206
      exact ⟨y, M', eq_t (by decide) (eq_t z c1), c2⟩
    · by_cases z2 : x5 ≤ x8
      · exact ⟨x5, M, eq_t (by decide) (eq_f z (eq_t z2 rfl)), hI⟩
      · obtain ⟨y, M', c1, c2⟩ := n206
        exact ⟨y, M', eq_t (by decide) (eq_f z (eq_f z2 c1)), c2⟩
  | w + 1, k + 1, v, x8, M, hw, hk, hv, hI, hg => by
    show ∃ y M', bX12_plan_122 n0 k95 (y122L n0 k95 w) x1 (nI n) x3 x4 x5 x6 (nI v) x8 (nI (k + 1) - 1) M = _ ∧ _
    have hl := hs.l
    obtain ⟨o1, o2, _⟩ := hI.2.1.2.1
    have e0 : nI (k + 1) - 1 = nI k := by rw [show (1 : Int32) = nI 1 from rfl, nI_subN (by omega)]; rfl
    have o : ¬ oob (nI k) 5 := nI_in (by omega) (by decide)
    have ck : (nI k).toNatClampNeg = k := nI_clamp (by omega)
    have nt1 : nI T.nt + 1 = nI (T.nt + 1) := nI_add _ 1
    have gd : ¬ nI (T.nt + 1) = 0 := nI_ne0 (by omega) (by omega)
    have hdv : v / (T.nt + 1) ≤ 20000 := Nat.le_trans (Nat.div_le_self _ _) hv
    have hrv : v % (T.nt + 1) < T.nt + 1 := Nat.mod_lt _ (by omega)
    have ev : rem32 (nI v) (gA M 2 (Int32.toNatClampNeg (gI M 13)) + 1) - 1 = nI (v % (T.nt + 1)) - 1 := by
      rw [hI.nt, nt1, rem_nI (by omega) (by omega)]
    have tO : tOk T.nt (nI (v % (T.nt + 1)) - 1) := by
      by_cases z : v % (T.nt + 1) = 0
      · rw [z]; exact Or.inl (by decide)
      · refine Or.inr ⟨v % (T.nt + 1) - 1, by omega, ?_⟩
        rw [show (1 : Int32) = nI 1 from rfl, nI_subN (by omega)]
    have I1 : PlY n0 b T m pm s M0 (sA M 36 k (nI (v % (T.nt + 1)) - 1)) := hI.fr (by omega) (YF.r.a (Or.inr (Or.inl rfl)))
    have g1 : gvC T (sA M 36 k (nI (v % (T.nt + 1)) - 1)) k := fun c h1 h2 => by
      rw [gA_sA, if_pos rfl]
      by_cases z : c = k
      · rw [if_pos z]; exact tO
      · rw [if_neg z]; exact hg c (by omega) h2
    have nx : ∀ x8', ∃ y M', y122L n0 k95 w x1 (nI n) x3 x4 x5 x6 (nI (v / (T.nt + 1))) x8' (nI k + -1) (sA M 36 k (nI (v % (T.nt + 1)) - 1)) = k95 x1 (nI n) x3 x4 y (x6 + 1) M' ∧ PlY n0 b T m pm s M0 M' := fun x8' => by
      rw [nI_dn]
      exact y122 hn hm h60 hs hO w k _ x8' _ (by omega) (by omega) hdv I1 g1
    have st : ∀ r, (if gA (sA M 36 k (nI (v % (T.nt + 1)) - 1)) 36 (Int32.toNatClampNeg (nI k)) = (-1 : Int32) then y122L n0 k95 w x1 (nI n) x3 x4 x5 x6 (nI (v / (T.nt + 1))) (x8 + 0) (nI k + -1) (sA M 36 k (nI (v % (T.nt + 1)) - 1)) else y122L n0 k95 w x1 (nI n) x3 x4 x5 x6 (nI (v / (T.nt + 1))) (x8 + 1) (nI k + -1) (sA M 36 k (nI (v % (T.nt + 1)) - 1))) = r → bX12_plan_122 n0 k95 (y122L n0 k95 w) x1 (nI n) x3 x4 x5 x6 (nI v) x8 (nI k) M = r := fun r hr => by
      unfold bX12_plan_122 fX12_plan_184
      refine eq_f (nI_nn (by omega)) (eq_f hI.o13 (eq_f (by rw [hI.nt, nt1]; exact gd) (eq_f o (eq_e (v' := sA M 36 k (nI (v % (T.nt + 1)) - 1)) (by rw [ev, ck]) (eq_f I1.o13 (eq_f (by rw [I1.nt, nt1]; exact gd) (eq_e (v' := nI (v / (T.nt + 1))) (by rw [I1.nt, nt1, nI_div (by omega) (by omega)]) (eq_f o hr))))))))
    rw [e0]
    by_cases z : gA (sA M 36 k (nI (v % (T.nt + 1)) - 1)) 36 (Int32.toNatClampNeg (nI k)) = (-1 : Int32)
    · obtain ⟨y, M', c1, c2⟩ := nx (x8 + 0)
      exact ⟨y, M', st _ (eq_t z c1), c2⟩
    · obtain ⟨y, M', c1, c2⟩ := nx (x8 + 1)
      exact ⟨y, M', st _ (eq_f z c1), c2⟩
theorem yplan {n0 q b : Nat} {T : TP} {nr C m : Nat} {pm : Nat → Int32 × Nat} {s : Nat × List (Nat × Nat)} {x y z : Int32} {MX MY : Mem} (hn : 20000 ≤ n0) (h : RR n0 q b T nr C m pm s MX MY) : okP (fX12_plan n0 x y z MY) (fun u => YF scP MY u.2) := by
  obtain ⟨h1, h2, h3, h4, _⟩ := id h
  obtain ⟨o1, o2, o3, _⟩ := h1.2.2.2.1.2.1
  have hm := h2.1
  have hl := h2.2.2.l
  have e0 : ∀ {v : Int32}, okP (some (v, MY)) (fun u => YF scP MY u.2) := okP_some YF.r
  have I0 : PlY n0 b T m pm s MY MY := ⟨YF.r, h1.2.2.2.2.1, h4⟩
  have pw : ∀ k, k ≤ 5 → (T.nt + 1) ^ k ≤ 16807 := fun k hk => Nat.le_trans (Nat.pow_le_pow_left (show T.nt + 1 ≤ 7 by omega) k) (Nat.le_trans (Nat.pow_le_pow_right (by decide) hk) (by decide))
  have nt1 : nI T.nt + 1 = nI (T.nt + 1) := nI_add _ 1
  unfold fX12_plan
  have ei : ∀ hi, ∃ r, fX12_is n0 x 0 hi MY = some (r, MY) := fun hi => by
    unfold fX12_is
    by_cases u : x < 0
    · exact ⟨_, eq_t u rfl⟩
    · by_cases u2 : hi < x
      · exact ⟨_, eq_f u (eq_t u2 rfl)⟩
      · exact ⟨_, eq_f u (eq_f u2 rfl)⟩
  obtain ⟨r, ei⟩ := ei (((1 : Int32) <<< ((gA MY 10 (Int32.toNatClampNeg (gI MY 13))) &&& 31)) - (1 : Int32))
  refine okP_f I0.o13 (okP_be ei (okP_ite (fun _ => e0) (fun _ => ?_)))
  rcases yah (n0 := n0) (lo := 0) (hi := 20) y h4.1.1 hm (by decide) (by decide) with ⟨n, n1, n2, n3, rfl, e⟩ | ⟨_, e⟩
  · have l95 : ∀ W, W ≤ 16807 → (z = -1 ∨ ∃ c, c < 5 ∧ z = nI c) → ∀ M1, PlY n0 b T m pm s MY M1 → okP (fX12_plan_95 n0 x (nI n) z (nI W) (-1) 0 M1) (fun u => YF scP MY u.2) := fun W hW hz M1 I1 => by
      refine lpG (L := fun w k (u : Int32 × Mem) => loopN (bX12_plan_95 n0) (fun _ _ _ _ _ _ _ => none) w x (nI n) z (nI W) u.1 (nI k) u.2) (n := W) (I := fun u => PlY n0 b T m pm s MY u.2) (fun w k u hk hu => Or.inr ?_) (fun w u hu => ?_) n0 0 (-1, M1) (by omega) (by omega) I1
      · show ∃ s', bX12_plan_95 n0 (loopN (bX12_plan_95 n0) (fun _ _ _ _ _ _ _ => none) w) x (nI n) z (nI W) u.1 (nI k) u.2 = _ ∧ _
        obtain ⟨y', M2, a1, a2⟩ := y122 (n0 := n0) (x1 := x) (x3 := z) (x4 := nI W) (x5 := u.1) (x6 := nI k) (k95 := loopN (bX12_plan_95 n0) (fun _ _ _ _ _ _ _ => none) w) (by omega) n3 (by omega) h2.2.2 h2.2.1 n0 T.nc k 0 u.2 (by omega) (Nat.le_refl _) (by omega) hu (fun c h1 h2 => by omega)
        refine ⟨(y', M2), ?_, a2⟩
        unfold bX12_plan_95
        refine eq_f (nI_ge hk (by omega)) (eq_f hu.o13 (eq_e (v' := nI T.nc - 1) (by rw [hu.nc]) (Eq.trans a1 ?_)))
        rw [show nI k + 1 = nI (k + 1) from nI_add k 1]
        rfl
      · show okP (bX12_plan_95 n0 (loopN (bX12_plan_95 n0) (fun _ _ _ _ _ _ _ => none) w) x (nI n) z (nI W) u.1 (nI W) u.2) _
        unfold bX12_plan_95
        refine okP_t (Int32.le_refl _) (okP_ite (fun _ => okP_some (plPsc hu.1)) (fun _ => okP_ite (fun _ => okP_some (plPsc hu.1)) (fun z3 => ?_)))
        rcases hz with hz | ⟨c, hc, rfl⟩
        · exact absurd hz z3
        · exact okP_f (nI_in hc (by decide)) (okP_some (plPsc hu.1))
    have l53 : (z = -1 ∨ ∃ c, c < 5 ∧ z = nI c) → okP (fX12_plan_47 n0 x (nI n) z MY) (fun u => YF scP MY u.2) := fun hz => by
      have l : ∀ w k, k ≤ T.nc → T.nc < w + k → okP (loopN (bX12_plan_53 n0) (fun _ _ _ _ _ _ => none) w x (nI n) z (nI ((T.nt + 1) ^ k)) (nI k) MY) (fun u => YF scP MY u.2) := fun w => by
        induction w with
        | zero => intro k hk hw; omega
        | succ w ih =>
          intro k hk hw
          show okP (bX12_plan_53 n0 (loopN (bX12_plan_53 n0) (fun _ _ _ _ _ _ => none) w) x (nI n) z (nI ((T.nt + 1) ^ k)) (nI k) MY) _
          unfold bX12_plan_53
          by_cases g : k = T.nc
          · exact okP_f I0.o13 (okP_t (by rw [I0.nc, g]; exact Int32.le_refl _) (l95 _ (pw k (by omega)) hz MY I0))
          · refine okP_f I0.o13 (okP_f (by rw [I0.nc]; exact nI_ge (by omega) (by omega)) (okP_f I0.o13 (okP_bnd ?_)))
            rw [I0.nt, nt1, nI_mul, show nI k + 1 = nI (k + 1) from nI_add k 1]
            exact ih (k + 1) (by omega) (by omega)
      exact l n0 0 (by omega) (by omega)
    refine okP_be e (okP_f (show ¬ (1 : Int32) = 0 by decide) (okP_ite (fun z3 => l53 (Or.inl z3)) (fun _ => ?_)))
    rcases isCo h1 z with ⟨c, hc, rfl, _, e2⟩ | ⟨_, _, e2⟩
    · exact okP_be e2 (okP_f (show ¬ (1 : Int32) = 0 by decide) (l53 (Or.inr ⟨c, by omega, rfl⟩)))
    · exact okP_be e2 (okP_t rfl e0)
  · exact okP_be e (okP_t rfl e0)
theorem nPlan {n0 : Nat} {x y z : Int32} {MX MY : Mem} (hn : 20000 ≤ n0) (h : R n0 MX MY) : CalN n0 (fX11_plan n0 x y z MX) (fX12_plan n0 x y z MY) := by
  obtain ⟨q, b, T, nr, C, m, pm, s, h⟩ := h
  exact CalN.scr h (xplan (by omega) h) (yplan hn h)
end
section
/-! BOTH SIDES AT FIRST -/
theorem own0 : ∀ i, i < 25 → gA MX0 4 i = nI (ownC i) := by decide +kernel
theorem town0 : TownR 31 0 0 0 0 0 0 MX0 MY0 :=
  ⟨⟨⟨rfl, rfl, by decide, fun i hi => absurd hi (Nat.not_lt_zero _)⟩, ⟨rfl, rfl, by decide, fun i hi => absurd hi (Nat.not_lt_zero _)⟩, ⟨rfl, rfl, by decide, fun i hi => absurd hi (Nat.not_lt_zero _)⟩⟩, fun i hi => absurd hi (Nat.not_lt_zero _), fun i hi => absurd hi (Nat.not_lt_zero _), fun i hi => absurd hi (Nat.not_lt_zero _), ⟨rfl, rfl, by decide, fun i hi => absurd hi (Nat.not_lt_zero _), fun _ _ _ _ => Or.inl ⟨rfl, fun i hi => absurd hi (Nat.not_lt_zero _)⟩⟩, ⟨0, by decide, rfl, rfl⟩, Or.inl ⟨rfl, rfl⟩, Or.inl ⟨rfl, rfl⟩, by decide⟩
theorem atFirst {n0 : Nat} (hn : 1700 ≤ n0) : ∃ M1, fX11_begin n0 MX0 = some M1 ∧ R n0 M1 MY0 := by
  have hX4 : ∃ X4, X4 = sI (sI (sR (sR MX0 896 31) 1280 31) 1281 0) 1285 0 := ⟨_, rfl⟩
  obtain ⟨X4, eX4⟩ := hX4
  have i4 : ∀ k, ¬ (k = 1281 ∨ k = 1285) → gI X4 k = gI MX0 k := fun k z => by
    rw [eX4, gI_ne (by omega), gI_ne (by omega)]
    rfl
  have a4 : gA X4 = gA MX0 := by rw [eX4]; rfl
  have r3 : gR X4 896 = 31 := by rw [eX4]; rfl
  have r4 : gR X4 1280 = 31 := by rw [eX4]; rfl
  have r1 : gR X4 1 = 31 := by rw [eX4]; rfl
  have r2 : gR X4 2 = 47 := by rw [eX4]; rfl
  have tw4 : xTw 31 MX0 X4 := ⟨fun k z _ => i4 k (by omega), fun a _ _ => by rw [a4]⟩
  have TR4 : TownR 31 0 0 0 0 0 0 X4 MY0 := town0.tw tw4 yTw.r
  obtain ⟨T, t1, t2, t3, t4, t5⟩ := townT (n0 := n0) hn TR4 (Or.inl rfl) (by decide) rfl
  have S4 : SX 31 T.nc T.nd 0 (fun _ => (-1, 0)) (0, []) X4 := by
    refine ⟨r3, r4, by rw [eX4, gI_ne (by decide), gI_at]; rfl, fun c hc => by omega, fun d hd => by omega, by rw [eX4, gI_at]; rfl, fun i p hp => by simp at hp⟩
  have Ps : PsO T.nt T.nc (fun _ => (-1, 0)) := fun c hc => by omega
  have sO : sOk T.nd (0, []) := ⟨Nat.pow_pos (by decide), Nat.zero_le _⟩
  obtain ⟨X6, d1, d2, d3⟩ := xfin hn t4 S4 Ps (by omega) sO
  have eF : fnS (due T (fun _ => (-1, 0)) 0) 0 (0, []) T.nd = (0, []) := by rw [t3]; rfl
  rw [eF] at d2
  have hX7 : ∃ X7, X7 = sI (sI X6 2050 0) 2688 0 := ⟨_, rfl⟩
  obtain ⟨X7, eX7⟩ := hX7
  have rX7 : gR X7 = gR X4 := by rw [eX7]; exact d3.1
  have iX7 : ∀ k, ¬ (k = 2050 ∨ k = 2688) → gI X7 k = gI X6 k := fun k z => by rw [eX7, gI_ne (by omega), gI_ne (by omega)]
  have iX6 : ∀ k, ¬ ((897 ≤ k ∧ k ≤ 900) ∨ k = 903 ∨ stI k) → gI X6 k = gI X4 k := d3.2.2.2.2
  have aX7 : gA X7 = gA X6 := by rw [eX7]; rfl
  have aX6 : ∀ a, ¬ (a = 8 ∨ a = 9 ∨ stA a) → gA X6 a = gA MX0 a := fun a z => by rw [d3.2.2.2.1 a z, a4]
  have tw7 : xTw 31 X4 X7 := ⟨fun k p1 p2 => (iX7 k (by omega)).trans (iX6 k (by unfold stI; omega)), fun a p1 p2 => by rw [aX7, aX6 a (by unfold stA; omega), a4]⟩
  have xI : ∀ k, k = 14 ∨ k = 15 ∨ k = 16 ∨ k = 17 ∨ k = 641 ∨ k = 2049 → gI X7 k = gI MX0 k := fun k z => (iX7 k (by omega)).trans ((iX6 k (by unfold stI; omega)).trans (i4 k (by omega)))
  have xA : ∀ a, a = 4 ∨ a = 6 ∨ a = 29 ∨ a = 30 → gA X7 a = gA MX0 a := fun a z => by rw [aX7, aX6 a (by unfold stA; omega)]
  refine ⟨X7, ?_, 31, 0, T, 0, 0, 0, (fun _ => (-1, 0)), (0, []), ⟨Or.inl rfl, by rw [rX7]; exact r1, by rw [rX7]; exact r2, t4.tw tw7, t5, ?_, rfl, rfl, rfl⟩, ⟨by omega, Ps, sO⟩, d2.cgs (by rw [eX7]; rfl) (iX7 1281 (by decide)) (iX7 1285 (by decide)) (fun a _ _ => by rw [aX7]), ?_, ?_, ?_, ?_, ?_, ?_, ?_, ?_, ?_⟩
  · unfold fX11_begin
    refine eq_n (eq_b (z := X4) ?_ (eq_b d1 (eq_n ?_)))
    · unfold fX6_begin
      refine eq_n (eq_n (eq_e (v' := X4) (by rw [eX4]; rfl) ?_))
      obtain ⟨w, rfl⟩ : ∃ w, n0 = w + 1 := ⟨n0 - 1, by omega⟩
      show bX6_begin_17 (w + 1) 31 (xbC (w + 1) 31 w) 0 X4 = _
      unfold bX6_begin_17
      refine eq_t (by rw [r4, i4 _ (by omega)]; decide) ?_
      show bX6_begin_50 (w + 1) 31 (xbD (w + 1) 31 w) 0 X4 = _
      unfold bX6_begin_50
      exact eq_t (by rw [r4, i4 _ (by omega)]; decide) rfl
    · rw [eX7]
  · have := TR4.tw tw7 yTw.r
    rw [t1, t2, t3]
    exact this
  · exact ⟨⟨rfl, fun c hc => by omega⟩, rfl, rfl, fun i p hp => by simp at hp⟩
  · refine ⟨0, 0, 0, fun _ => (0, (fun _ => (-1, 0)), 0, 0), by decide, by decide, by decide, by rw [xI 2049 (by omega)]; rfl, by rw [eX7, gI_ne (by decide), gI_at]; rfl, rfl, rfl, fun i hi => by omega, fun i j _ hj => by omega⟩
  · exact ⟨0, by omega, by rw [eX7, gI_at]; rfl, rfl, fun k hk => by omega⟩
  · exact ⟨1, by decide, by rw [xI 17 (by omega)]; rfl, rfl⟩
  · exact ⟨0, by decide, by rw [xI 14 (by omega)]; rfl, rfl, fun k hk => by omega⟩
  · intro k hk
    rw [xA 30 (by omega)]
    rfl
  · exact ⟨by rw [xI 15 (by omega)]; rfl, by rw [xI 16 (by omega)]; rfl⟩
  · exact ⟨0, by decide, by rw [xI 641 (by omega)]; rfl, rfl, by rw [xA 6 (by omega)]; rfl, fun i hi => by omega⟩
  · intro i hi
    rw [xA 4 (by omega)]
    exact own0 i hi
end
section
/-! THE LAW, CALL AFTER CALL -/
theorem stC {n0 : Nat} {f g : Option (Int32 × Mem)} (h : Cal n0 f g) : ∃ Z : Mem × Mem, (f.bind fun zx => g.bind fun zy => if zx.1 = zy.1 then some (zx.2, zy.2) else none) = some Z ∧ R n0 Z.1 Z.2 := by
  obtain ⟨r, MX', MY', h1, h2, h3⟩ := h
  exact ⟨(MX', MY'), eq_b h1 (eq_b h2 (eq_t rfl rfl)), h3⟩
theorem stN {n0 : Nat} {f g : Option (Int32 × Mem)} (h : CalN n0 f g) : ∃ Z : Mem × Mem, (f.bind fun zx => g.bind fun zy => some (zx.2, zy.2)) = some Z ∧ R n0 Z.1 Z.2 := by
  obtain ⟨r, r', MX', MY', h1, h2, h3⟩ := h
  exact ⟨(MX', MY'), eq_b h1 (eq_b h2 rfl), h3⟩
theorem stQ {n0 : Nat} {f g : Option (Int64 × Mem)} (h : CalL n0 f g) : ∃ Z : Mem × Mem, (f.bind fun zx => g.bind fun zy => some (zx.2, zy.2)) = some Z ∧ R n0 Z.1 Z.2 := by
  obtain ⟨r, r', MX', MY', h1, h2, h3⟩ := h
  exact ⟨(MX', MY'), eq_b h1 (eq_b h2 rfl), h3⟩
theorem sg0 {n0 : Nat} {a : Nat → Int32} {MX MY : Mem} (hn : 20000 ≤ n0) (h : R n0 MX MY) : ∃ Z, stp0 n0 a MX MY = some Z ∧ R n0 Z.1 Z.2 := by
  have hn1 : 1700 ≤ n0 := by omega
  unfold stp0
  exact stN (cFeed hn1 h).n
theorem sg1 {n0 : Nat} {a : Nat → Int32} {MX MY : Mem} (hn : 20000 ≤ n0) (h : R n0 MX MY) : ∃ Z, stp1 n0 a MX MY = some Z ∧ R n0 Z.1 Z.2 := by
  have hn1 : 1700 ≤ n0 := by omega
  unfold stp1
  exact stN (cEnd h).n
theorem sg2 {n0 : Nat} {a : Nat → Int32} {MX MY : Mem} (hn : 20000 ≤ n0) (h : R n0 MX MY) : ∃ Z, stp2 n0 a MX MY = some Z ∧ R n0 Z.1 Z.2 := by
  have hn1 : 1700 ≤ n0 := by omega
  unfold stp2
  exact stN (cTown hn1 h).n
theorem sg3 {n0 : Nat} {a : Nat → Int32} {MX MY : Mem} (hn : 20000 ≤ n0) (h : R n0 MX MY) : ∃ Z, stp3 n0 a MX MY = some Z ∧ R n0 Z.1 Z.2 := by
  have hn1 : 1700 ≤ n0 := by omega
  unfold stp3
  exact stN (cFault h).n
theorem sg4 {n0 : Nat} {a : Nat → Int32} {MX MY : Mem} (hn : 20000 ≤ n0) (h : R n0 MX MY) : ∃ Z, stp4 n0 a MX MY = some Z ∧ R n0 Z.1 Z.2 := by
  have hn1 : 1700 ≤ n0 := by omega
  unfold stp4
  exact stN (cHas hn1 h).n
theorem sg5 {n0 : Nat} {a : Nat → Int32} {MX MY : Mem} (hn : 20000 ≤ n0) (h : R n0 MX MY) : ∃ Z, stp5 n0 a MX MY = some Z ∧ R n0 Z.1 Z.2 := by
  have hn1 : 1700 ≤ n0 := by omega
  unfold stp5
  exact stN (cLetter hn1 h).n
theorem sg6 {n0 : Nat} {a : Nat → Int32} {MX MY : Mem} (hn : 20000 ≤ n0) (h : R n0 MX MY) : ∃ Z, stp6 n0 a MX MY = some Z ∧ R n0 Z.1 Z.2 := by
  have hn1 : 1700 ≤ n0 := by omega
  unfold stp6
  exact stN (cThing h).n
theorem sg7 {n0 : Nat} {a : Nat → Int32} {MX MY : Mem} (hn : 20000 ≤ n0) (h : R n0 MX MY) : ∃ Z, stp7 n0 a MX MY = some Z ∧ R n0 Z.1 Z.2 := by
  have hn1 : 1700 ≤ n0 := by omega
  unfold stp7
  exact stC (cCorner h)
theorem sg8 {n0 : Nat} {a : Nat → Int32} {MX MY : Mem} (hn : 20000 ≤ n0) (h : R n0 MX MY) : ∃ Z, stp8 n0 a MX MY = some Z ∧ R n0 Z.1 Z.2 := by
  have hn1 : 1700 ≤ n0 := by omega
  unfold stp8
  exact stN (cDoing h).n
theorem sg9 {n0 : Nat} {a : Nat → Int32} {MX MY : Mem} (hn : 20000 ≤ n0) (h : R n0 MX MY) : ∃ Z, stp9 n0 a MX MY = some Z ∧ R n0 Z.1 Z.2 := by
  have hn1 : 1700 ≤ n0 := by omega
  unfold stp9
  exact stN (cLater hn1 h).n
theorem sg10 {n0 : Nat} {a : Nat → Int32} {MX MY : Mem} (hn : 20000 ≤ n0) (h : R n0 MX MY) : ∃ Z, stp10 n0 a MX MY = some Z ∧ R n0 Z.1 Z.2 := by
  have hn1 : 1700 ≤ n0 := by omega
  unfold stp10
  exact stN (cWhen hn1 h).n
theorem sg11 {n0 : Nat} {a : Nat → Int32} {MX MY : Mem} (hn : 20000 ≤ n0) (h : R n0 MX MY) : ∃ Z, stp11 n0 a MX MY = some Z ∧ R n0 Z.1 Z.2 := by
  have hn1 : 1700 ≤ n0 := by omega
  unfold stp11
  exact stN (cAlike hn1 h).n
theorem sg12 {n0 : Nat} {a : Nat → Int32} {MX MY : Mem} (hn : 20000 ≤ n0) (h : R n0 MX MY) : ∃ Z, stp12 n0 a MX MY = some Z ∧ R n0 Z.1 Z.2 := by
  have hn1 : 1700 ≤ n0 := by omega
  unfold stp12
  exact stN (nPlan hn h)
theorem sg13 {n0 : Nat} {a : Nat → Int32} {MX MY : Mem} (hn : 20000 ≤ n0) (h : R n0 MX MY) : ∃ Z, stp13 n0 a MX MY = some Z ∧ R n0 Z.1 Z.2 := by
  have hn1 : 1700 ≤ n0 := by omega
  unfold stp13
  exact stN (cEvening hn1 h).n
theorem sg14 {n0 : Nat} {a : Nat → Int32} {MX MY : Mem} (hn : 20000 ≤ n0) (h : R n0 MX MY) : ∃ Z, stp14 n0 a MX MY = some Z ∧ R n0 Z.1 Z.2 := by
  have hn1 : 1700 ≤ n0 := by omega
  unfold stp14
  exact stQ (nOdds hn1 h)
theorem sg15 {n0 : Nat} {a : Nat → Int32} {MX MY : Mem} (hn : 20000 ≤ n0) (h : R n0 MX MY) : ∃ Z, stp15 n0 a MX MY = some Z ∧ R n0 Z.1 Z.2 := by
  have hn1 : 1700 ≤ n0 := by omega
  unfold stp15
  exact stN (nWay hn1 h)
theorem sg16 {n0 : Nat} {a : Nat → Int32} {MX MY : Mem} (hn : 20000 ≤ n0) (h : R n0 MX MY) : ∃ Z, stp16 n0 a MX MY = some Z ∧ R n0 Z.1 Z.2 := by
  have hn1 : 1700 ≤ n0 := by omega
  unfold stp16
  exact stN (nArrive hn1 h)
theorem sg17 {n0 : Nat} {a : Nat → Int32} {MX MY : Mem} (hn : 20000 ≤ n0) (h : R n0 MX MY) : ∃ Z, stp17 n0 a MX MY = some Z ∧ R n0 Z.1 Z.2 := by
  have hn1 : 1700 ≤ n0 := by omega
  unfold stp17
  exact stN (nEarly hn1 h)
theorem sg18 {n0 : Nat} {a : Nat → Int32} {MX MY : Mem} (hn : 20000 ≤ n0) (h : R n0 MX MY) : ∃ Z, stp18 n0 a MX MY = some Z ∧ R n0 Z.1 Z.2 := by
  have hn1 : 1700 ≤ n0 := by omega
  unfold stp18
  exact stN (cSee hn1 h).n
theorem sg19 {n0 : Nat} {a : Nat → Int32} {MX MY : Mem} (hn : 20000 ≤ n0) (h : R n0 MX MY) : ∃ Z, stp19 n0 a MX MY = some Z ∧ R n0 Z.1 Z.2 := by
  have hn1 : 1700 ≤ n0 := by omega
  unfold stp19
  exact stN (cHeld hn1 h).n
theorem sg20 {n0 : Nat} {a : Nat → Int32} {MX MY : Mem} (hn : 20000 ≤ n0) (h : R n0 MX MY) : ∃ Z, stp20 n0 a MX MY = some Z ∧ R n0 Z.1 Z.2 := by
  have hn1 : 1700 ≤ n0 := by omega
  unfold stp20
  exact stN (cTells hn1 h).n
theorem sg21 {n0 : Nat} {a : Nat → Int32} {MX MY : Mem} (hn : 20000 ≤ n0) (h : R n0 MX MY) : ∃ Z, stp21 n0 a MX MY = some Z ∧ R n0 Z.1 Z.2 := by
  have hn1 : 1700 ≤ n0 := by omega
  unfold stp21
  exact stN (cMinutes hn1 h).n
theorem sg22 {n0 : Nat} {a : Nat → Int32} {MX MY : Mem} (hn : 20000 ≤ n0) (h : R n0 MX MY) : ∃ Z, stp22 n0 a MX MY = some Z ∧ R n0 Z.1 Z.2 := by
  have hn1 : 1700 ≤ n0 := by omega
  unfold stp22
  exact stN (cChance hn1 h).n
theorem sg23 {n0 : Nat} {a : Nat → Int32} {MX MY : Mem} (hn : 20000 ≤ n0) (h : R n0 MX MY) : ∃ Z, stp23 n0 a MX MY = some Z ∧ R n0 Z.1 Z.2 := by
  have hn1 : 1700 ≤ n0 := by omega
  unfold stp23
  exact stN (cGive hn1 h).n
theorem sg24 {n0 : Nat} {a : Nat → Int32} {MX MY : Mem} (hn : 20000 ≤ n0) (h : R n0 MX MY) : ∃ Z, stp24 n0 a MX MY = some Z ∧ R n0 Z.1 Z.2 := by
  have hn1 : 1700 ≤ n0 := by omega
  unfold stp24
  exact stN (cTake hn1 h).n
theorem sg25 {n0 : Nat} {a : Nat → Int32} {MX MY : Mem} (hn : 20000 ≤ n0) (h : R n0 MX MY) : ∃ Z, stp25 n0 a MX MY = some Z ∧ R n0 Z.1 Z.2 := by
  have hn1 : 1700 ≤ n0 := by omega
  unfold stp25
  exact stN (cUndo hn1 h).n
theorem sg26 {n0 : Nat} {a : Nat → Int32} {MX MY : Mem} (hn : 20000 ≤ n0) (h : R n0 MX MY) : ∃ Z, stp26 n0 a MX MY = some Z ∧ R n0 Z.1 Z.2 := by
  have hn1 : 1700 ≤ n0 := by omega
  unfold stp26
  exact stN (cSeed h).n
theorem sg27 {n0 : Nat} {a : Nat → Int32} {MX MY : Mem} (hn : 20000 ≤ n0) (h : R n0 MX MY) : ∃ Z, stp27 n0 a MX MY = some Z ∧ R n0 Z.1 Z.2 := by
  have hn1 : 1700 ≤ n0 := by omega
  unfold stp27
  exact stN (cKept h).n
theorem sg28 {n0 : Nat} {a : Nat → Int32} {MX MY : Mem} (hn : 20000 ≤ n0) (h : R n0 MX MY) : ∃ Z, stp28 n0 a MX MY = some Z ∧ R n0 Z.1 Z.2 := by
  have hn1 : 1700 ≤ n0 := by omega
  unfold stp28
  exact stN (cImage hn1 h).n
theorem sg29 {n0 : Nat} {a : Nat → Int32} {MX MY : Mem} (hn : 20000 ≤ n0) (h : R n0 MX MY) : ∃ Z, stp29 n0 a MX MY = some Z ∧ R n0 Z.1 Z.2 := by
  have hn1 : 1700 ≤ n0 := by omega
  unfold stp29
  exact stN (cOctet h).n
theorem sg30 {n0 : Nat} {a : Nat → Int32} {MX MY : Mem} (hn : 20000 ≤ n0) (h : R n0 MX MY) : ∃ Z, stp30 n0 a MX MY = some Z ∧ R n0 Z.1 Z.2 := by
  have hn1 : 1700 ≤ n0 := by omega
  unfold stp30
  exact stN (cOn hn1 h).n
theorem sg31 {n0 : Nat} {a : Nat → Int32} {MX MY : Mem} (hn : 20000 ≤ n0) (h : R n0 MX MY) : ∃ Z, stp31 n0 a MX MY = some Z ∧ R n0 Z.1 Z.2 := by
  have hn1 : 1700 ≤ n0 := by omega
  unfold stp31
  exact stN (cStatus h).n
theorem sgAll {n0 : Nat} {a : Nat → Int32} {MX MY : Mem} (hn : 20000 ≤ n0) (h : R n0 MX MY) (k : Nat) (hk : k < 32) : ∃ Z, stepL n0 k a MX MY = some Z ∧ R n0 Z.1 Z.2 := by
  rcases (show k = 0 ∨ k = 1 ∨ k = 2 ∨ k = 3 ∨ k = 4 ∨ k = 5 ∨ k = 6 ∨ k = 7 ∨ k = 8 ∨ k = 9 ∨ k = 10 ∨ k = 11 ∨ k = 12 ∨ k = 13 ∨ k = 14 ∨ k = 15 ∨ k = 16 ∨ k = 17 ∨ k = 18 ∨ k = 19 ∨ k = 20 ∨ k = 21 ∨ k = 22 ∨ k = 23 ∨ k = 24 ∨ k = 25 ∨ k = 26 ∨ k = 27 ∨ k = 28 ∨ k = 29 ∨ k = 30 ∨ k = 31 by omega) with rfl | rfl | rfl | rfl | rfl | rfl | rfl | rfl | rfl | rfl | rfl | rfl | rfl | rfl | rfl | rfl | rfl | rfl | rfl | rfl | rfl | rfl | rfl | rfl | rfl | rfl | rfl | rfl | rfl | rfl | rfl | rfl
  · exact sg0 (a := a) hn h
  · exact sg1 (a := a) hn h
  · exact sg2 (a := a) hn h
  · exact sg3 (a := a) hn h
  · exact sg4 (a := a) hn h
  · exact sg5 (a := a) hn h
  · exact sg6 (a := a) hn h
  · exact sg7 (a := a) hn h
  · exact sg8 (a := a) hn h
  · exact sg9 (a := a) hn h
  · exact sg10 (a := a) hn h
  · exact sg11 (a := a) hn h
  · exact sg12 (a := a) hn h
  · exact sg13 (a := a) hn h
  · exact sg14 (a := a) hn h
  · exact sg15 (a := a) hn h
  · exact sg16 (a := a) hn h
  · exact sg17 (a := a) hn h
  · exact sg18 (a := a) hn h
  · exact sg19 (a := a) hn h
  · exact sg20 (a := a) hn h
  · exact sg21 (a := a) hn h
  · exact sg22 (a := a) hn h
  · exact sg23 (a := a) hn h
  · exact sg24 (a := a) hn h
  · exact sg25 (a := a) hn h
  · exact sg26 (a := a) hn h
  · exact sg27 (a := a) hn h
  · exact sg28 (a := a) hn h
  · exact sg29 (a := a) hn h
  · exact sg30 (a := a) hn h
  · exact sg31 (a := a) hn h
theorem lawAll {n0 L : Nat} {xs : Nat → Int32} (hn : 20000 ≤ n0) : ∀ w j MX MY, 0 < w → L < j + 6 * w → R n0 MX MY → lawF n0 L xs w j MX MY = some ()
  | 0, _, _, _, h0, _, _ => absurd h0 (Nat.lt_irrefl 0)
  | w + 1, j, MX, MY, _, hw, h => by
    rw [lawF]
    by_cases g : j + 6 ≤ L
    · obtain ⟨Z, e1, e2⟩ := sgAll (a := fun t => xs (j + t)) hn h ((xs j).toBitVec.toNat % 32) (Nat.mod_lt _ (by decide))
      rw [if_pos g, e1, Option.bind_some]
      exact lawAll hn w (j + 6) Z.1 Z.2 (by omega) (by omega) e2
    · rw [if_neg g]
end
