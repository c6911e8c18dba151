/-! A TOWN ON BOTH SIDES: the call -/
theorem zbit (e : Nat) : nI (0 / 2 ^ e % 2) = 0 := by rw [Nat.zero_div]; rfl
theorem townGood {n0 q b L sx nt nc nd nr C j x0 f : Nat} {MX MY X1 Y1 : Mem} (hn : 1700 ≤ n0) (hq : q = 31 ∨ q = 47) (hb : b ≤ 1) (hR1 : gR MX 1 = 78 - q) (hR2 : gR MX 2 = q) (ho : RO MX MY) (hx0 : x0 < 20) (hf : f < 20) (u1 : gI MX 2049 = nI x0) (u2 : gI MY 53 = nI f)
    (k1 : fX4_read n0 q MX = some (1, X1)) (k2 : fX12_town n0 MY = fX12_town_196 n0 (nI j) Y1) (k4 : Rd L sx q b nt nc nd nr C X1 Y1) (k5 : gI X1 (128 * q) = nI j) (fX : FX4 q MX X1) (fY : FY4 b MY Y1) (y1 : gI Y1 1 = 0) : Cal n0 (fX11_town n0 MX) (fX12_town n0 MY) := by
  obtain ⟨⟨_, _, x391, x392, y8, y9⟩, ⟨_, _, at3, _⟩, hTR, _, _⟩ := k4
  have g1 : gR X1 1 = 78 - q := (fX.2.2 1 (by decide) (by decide)).trans hR1
  have g2 : gR X1 2 = q := (fX.2.2 2 (by decide) (by decide)).trans hR2
  -- the class, as far as its begin
  have hX2 : ∃ X2, X2 = sR (sR (sI (sI (sI X1 641 0) 15 0) 16 (-1)) 1 q) 2 (78 - q) := ⟨_, rfl⟩
  obtain ⟨X2, eX2⟩ := hX2
  have hX4 : ∃ X4, X4 = sI (sI (sR (sR X2 896 q) 1280 q) 1281 0) 1285 0 := ⟨_, rfl⟩
  obtain ⟨X4, eX4⟩ := hX4
  have r1 : gR X4 1 = q := by rw [eX4, eX2]; rfl
  have r2 : gR X4 2 = 78 - q := by rw [eX4, eX2]; rfl
  have r3 : gR X4 896 = q := by rw [eX4]; rfl
  have r4 : gR X4 1280 = q := by rw [eX4]; rfl
  have i4 : ∀ k, ¬ (k = 641 ∨ k = 15 ∨ k = 16 ∨ k = 1281 ∨ k = 1285) → gI X4 k = gI X1 k := fun k z => by
    rw [eX4, gI_ne (by omega), gI_ne (by omega)]
    show gI X2 k = _
    rw [eX2]
    show gI (sI (sI (sI X1 641 0) 15 0) 16 (-1)) k = _
    rw [gI_ne (by omega), gI_ne (by omega), gI_ne (by omega)]
  have a4 : gA X4 = gA X1 := by rw [eX4, eX2]; rfl
  have tw4 : xTw q X1 X4 := ⟨fun k z _ => i4 k (by omega), fun a _ _ => by rw [a4]⟩
  -- the reference, as far as its begin
  have hY2 : ∃ Y2, Y2 = sI (sI Y1 10 0) 11 (-1) := ⟨_, rfl⟩
  obtain ⟨Y2, eY2⟩ := hY2
  obtain ⟨Y3, m1, m2, m3, m4, m5, m6⟩ := measures (n0 := n0) (b := b) (M := Y2) hn hb (by rw [eY2, gI_ne (by decide), gI_ne (by decide)]; exact at3)
  have hY4 : ∃ Y4, Y4 = sI Y3 13 (nI b) := ⟨_, rfl⟩
  obtain ⟨Y4, eY4⟩ := hY4
  have A4 : ∀ a, ¬ a = 9 → gA Y4 a = gA Y1 a := fun a z => by
    rw [eY4]
    show gA Y3 a = _
    funext i
    rw [m6 a i (fun y => z y.1), eY2]
    rfl
  have B4 : gB Y4 = gB Y1 := by rw [eY4]; show gB Y3 = _; rw [m5, eY2]; rfl
  have L4 : gL Y4 = gL Y1 := by rw [eY4]; show gL Y3 = _; rw [m4, eY2]; rfl
  have I4 : ∀ k, ¬ (k = 10 ∨ k = 11 ∨ k = 13) → gI Y4 k = gI Y1 k := fun k z => by
    rw [eY4, gI_ne (by omega), m2, eY2, gI_ne (by omega), gI_ne (by omega)]
  have I13 : gI Y4 13 = nI b := by rw [eY4, gI_at]
  have TR4 : TownR q b nt nc nd nr C X4 Y4 := (hTR.tw tw4 yTw.r).nine A4 B4
  obtain ⟨T, t1, t2, t3, t4, t5⟩ := townT hn TR4 hq hb I13
  subst t1 t2 t3
  have ok := t4.2.1
  obtain ⟨o1, o2, o3, _⟩ := ok
  have pmD := TR4.2.2.1
  -- the class begins
  obtain ⟨X5, c1, c2, c3, c4, c5, c6, c7, c8⟩ := xb17 (n0 := n0) (q1 := q) (pa := gA X4 (q + 5)) hn o2 o3 n0 0 X4 (by omega) (by omega) (by rw [r4]; exact t4.2.2.1) (by rw [r4]; exact t4.2.2.2.1) (by rw [r4]; omega) (fun j _ => by rw [r4])
  have tw5 : xTw q X4 X5 := ⟨fun k _ _ => by rw [c7], fun a z1 z2 => by funext i; exact c8 a i (by omega)⟩
  have T5 := t4.tw tw5
  have S5 : SX q T.nc T.nd 0 (fun c => (gA X4 (q + 5) c, 0)) (0, []) X5 := by
    refine ⟨by rw [c4]; exact r3, by rw [c4]; exact r4, by rw [c7, eX4, gI_ne (by decide), gI_at]; rfl, fun c hc => c2 c (by omega) hc, fun d hd => ?_, by rw [c7, eX4, gI_at]; rfl, fun i p hp => by simp at hp⟩
    rw [c3 d hd]
    exact (zbit d).symm
  have Ps : PsO T.nt T.nc (fun c => (gA X4 (q + 5) c, 0)) := fun c hc => ⟨(pmD c hc).2, Nat.zero_le _⟩
  have sO : sOk T.nd (0, []) := ⟨Nat.pow_pos (by decide), Nat.zero_le _⟩
  obtain ⟨X6, d1, d2, d3⟩ := xfin hn T5 S5 Ps (by omega) sO
  -- the reference begins
  obtain ⟨Y5, e1, e2, e3, e4, e5, e6, e7⟩ := yb16 (n0 := n0) (b := b) (nc := T.nc) (pa := gA X4 (q + 5)) o2 hb n0 0 (sA (sA Y4 28 0 0) 31 0 0) (by omega) (by omega) I13 (by rw [gA_sA_ne (by decide), gA_sA_ne (by decide)]; exact t5.2.2.2.2.2.1) (fun j hj => by rw [gA_sA_ne (by decide), gA_sA_ne (by decide)]; exact (pmD j hj).1.symm)
  have hY6 : ∃ Y6, Y6 = sI (sI (sA Y5 32 0 0) 54 0) 61 0 := ⟨_, rfl⟩
  obtain ⟨Y6, eY6⟩ := hY6
  rw [← eY6] at e1
  have A6 : ∀ a, ¬ (28 ≤ a ∧ a ≤ 32) → gA Y6 a = gA Y4 a := fun a z => by
    rw [eY6]
    show gA (sA Y5 32 0 0) a = _
    rw [gA_sA_ne (by omega)]
    funext i
    rw [e7 a i (by omega), gA_sA_ne (by omega), gA_sA_ne (by omega)]
  have I6 : ∀ k, ¬ (k = 54 ∨ k = 61) → gI Y6 k = gI Y4 k := fun k z => by
    rw [eY6, gI_ne (by omega), gI_ne (by omega)]
    show gI Y5 k = _
    rw [e6]
    rfl
  have B6 : gB Y6 = gB Y4 := by rw [eY6]; show gB Y5 = _; rw [e5]; rfl
  have L6 : gL Y6 = gL Y4 := by rw [eY6]; show gL Y5 = _; rw [e4]; rfl
  have T6 : YT n0 b T Y6 := t5.tw (yTw.all (fun a z1 z2 => A6 a (by omega)) (fun a _ _ => by rw [B6])) (I6 13 (by decide))
  have L6d : LyD 0 T.nc 0 (fun c => (gA X4 (q + 5) c, 0)) (0, []) Y6 := by
    refine ⟨⟨?_, fun c hc => ?_⟩, ?_, ?_, fun i p hp => by simp at hp⟩
    · rw [eY6]
      show gA (sA Y5 32 0 0) 28 0 = _
      rw [gA_sA_ne (by decide), e7 28 0 (by omega), gA_sA_ne (by decide), gA_sA, if_pos rfl, if_pos rfl]
      rfl
    · rw [eY6]
      show gA (sA Y5 32 0 0) 29 (5 * 0 + c) = _ ∧ gA (sA Y5 32 0 0) 30 (5 * 0 + c) = _
      rw [gA_sA_ne (by decide), gA_sA_ne (by decide), show 5 * 0 + c = c by omega]
      exact e2 c (by omega) hc
    · rw [eY6]
      show gA (sA Y5 32 0 0) 31 0 = _
      rw [gA_sA_ne (by decide), e7 31 0 (by omega), gA_sA, if_pos rfl, if_pos rfl]
      rfl
    · rw [eY6]
      show gA (sA Y5 32 0 0) 32 0 = _
      rw [gA_sA, if_pos rfl, if_pos rfl]
      rfl
  obtain ⟨Y7, z1, z2, z3⟩ := yfinD (v := 0) hn T6 (by decide) L6d Ps sO (by omega)
  -- both calls
  have hX7 : ∃ X7, X7 = sI (sI X6 2050 0) 2688 0 := ⟨_, rfl⟩
  obtain ⟨X7, eX7⟩ := hX7
  have rX6 : gR X6 = gR X4 := d3.1.trans c4
  have iX6 : ∀ k, ¬ ((897 ≤ k ∧ k ≤ 900) ∨ k = 903 ∨ stI k) → gI X6 k = gI X4 k := fun k z => (d3.2.2.2.2 k z).trans (by rw [c7])
  have aX6 : ∀ a, ¬ (a = 8 ∨ a = 9 ∨ stA a) → gA X6 a = gA X1 a := fun a z => (d3.2.2.2.1 a z).trans (by funext i; rw [c8 a i (by unfold stA at z; omega), a4])
  have iX7 : ∀ k, ¬ (k = 2050 ∨ k = 2688) → gI X7 k = gI X6 k := fun k z => by rw [eX7, gI_ne (by omega), gI_ne (by omega)]
  have aX7 : gA X7 = gA X6 := by rw [eX7]; rfl
  have rX7 : gR X7 = gR X6 := by rw [eX7]; rfl
  have tw7 : xTw q X4 X7 := ⟨fun k p1 p2 => (iX7 k (by omega)).trans (iX6 k (by unfold stI; omega)), fun a p1 p2 => by rw [aX7, aX6 a (by unfold stA; omega), a4]⟩
  have cX : fX11_town n0 MX = some (nI j, X7) := by
    unfold fX11_town
    rw [hR2]
    refine eq_b k1 (eq_n (eq_e (v' := sI (sI X1 641 0) 15 0) ?_ (eq_e (v' := sI (sI (sI X1 641 0) 15 0) 16 (-1)) ?_ (eq_f (show ¬ (1 : Int32) = 0 by decide) (eq_e (v' := sR (sI (sI (sI X1 641 0) 15 0) 16 (-1)) 1 q) ?_ (eq_e (v' := X2) ?_ (eq_b (z := X7) ?_ ?_)))))))
    · rw [gI_ne (by decide), x391]
    · rw [gI_ne (by decide), gI_ne (by decide), x392]
    · rw [show gR (sI (sI (sI X1 641 0) 15 0) 16 (-1)) 2 = q from g2]
    · rw [show gR (sI (sI (sI X1 641 0) 15 0) 16 (-1)) 1 = 78 - q from g1, eX2]
    · unfold fX11_begin
      have rr : gR X2 1 = q := by rw [eX2]; rfl
      rw [rr]
      refine eq_n (eq_b (z := X5) ?_ (eq_b d1 (eq_n ?_)))
      · rw [show gR (sR X2 896 q) 1 = q from rr]
        unfold fX6_begin
        refine eq_n (eq_n (eq_e (v' := X4) (by rw [eX4]) c1))
      · rw [eX7]
    · rw [show gR X7 1 = q by rw [rX7, rX6]; exact r1, Nat.add_zero, iX7 _ (by omega), iX6 _ (by unfold stI; omega), i4 _ (by omega), k5]
  have cY : fX12_town n0 MY = some (nI j, Y7) := by
    rw [k2]
    unfold fX12_town_196
    refine eq_e (v' := sI Y1 10 0) (by rw [y8]) (eq_e (v' := Y2) ?_ (eq_t ?_ (eq_b m1 (eq_e (v' := Y4) ?_ (eq_b (z := Y7) ?_ rfl)))))
    · rw [gI_ne (by decide), y9, eY2]
    · rw [eY2, gI_ne (by decide), gI_ne (by decide), y8]; decide
    · rw [eY4, m2, eY2, gI_ne (by decide), gI_ne (by decide), at3]
    · unfold fX12_begin
      exact eq_f (by decide) (eq_n (eq_f (by decide) (eq_n (Eq.trans e1 (eq_b z1 rfl)))))
  have xI : ∀ k, k = 14 ∨ k = 17 ∨ k = 2049 → gI X7 k = gI MX k := fun k z => (iX7 k (by omega)).trans ((iX6 k (by unfold stI; omega)).trans ((i4 k (by omega)).trans (fX.1 k (by unfold rgX; omega))))
  have xA : ∀ a, a = 4 ∨ a = 6 ∨ a = 29 ∨ a = 30 → gA X7 a = gA MX a := fun a z => by rw [aX7, aX6 a (by unfold stA; omega)]; exact fX.2.1 a (by omega)
  have iY7 : ∀ k, gI Y7 k = gI Y6 k := fun k => by rw [z3.2.2.1]
  have yA : ∀ a, a = 1 ∨ a = 27 ∨ a = 43 → gA Y7 a = gA MY a := fun a z => by
    rw [z3.gA (fun i y => by unfold lP tP dP at y; omega) (by omega), A6 a (by omega), A4 a (by omega)]
    funext i
    exact fY.2.1 a i (by unfold regA; omega)
  have TR7 : TownR q b T.nt T.nc T.nd nr C X7 Y7 := TR4.tw tw7 (yTw.all (fun a p1 p2 => by rw [z3.gA (fun i y => by unfold lP tP dP at y; omega) (by omega), A6 a (by omega)]) (fun a p1 p2 => by rw [z3.2.2.2.2 a (by omega), B6]))
  obtain ⟨h1, h2, h3, h4, h5, h6⟩ := ho
  refine ⟨nI j, X7, Y7, cX, cY, q, b, T, nr, C, 0, (fun c => (gA X4 (q + 5) c, 0)), fnS (due T (fun c => (gA X4 (q + 5) c, 0)) 0) 0 (0, []) T.nd, ⟨hq, by rw [rX7, rX6]; exact r1, by rw [rX7, rX6]; exact r2, t4.tw tw7, T6.yf z3 lP28, TR7, rfl, rfl, rfl⟩, ⟨by omega, Ps, fnS_ok o3 sO _ (Nat.le_refl _)⟩, d2.cgs rX7 (iX7 1281 (by decide)) (iX7 1285 (by decide)) (fun a _ _ => by rw [aX7]), z2, ?_, ?_, ?_, ?_, ?_, ?_, ?_, ?_⟩
  · refine ⟨x0, f, 0, fun _ => (0, (fun _ => (-1, 0)), 0, 0), hx0, hf, by omega, ?_, ?_, ?_, ?_, fun i hi => by omega, fun i j _ hj => by omega⟩
    · rw [xI 2049 (by omega), u1, Nat.add_zero, Nat.mod_eq_of_lt hx0]
    · rw [eX7, gI_ne (by decide), gI_at]; rfl
    · rw [iY7, I6 53 (by decide), I4 53 (by decide), fY.1 53 (by unfold regI; omega)]; exact u2
    · rw [iY7, eY6, gI_ne (by decide), gI_at]; rfl
  · exact ⟨0, by omega, by rw [eX7, gI_at]; rfl, by rw [iY7, eY6, gI_at]; rfl, fun k hk => by omega⟩
  · exact h1.cg (xI 17 (by omega)) (by rw [z3.2.1, L6, L4]; exact fY.2.2.1 55 (by decide))
  · exact h2.cg (xI 14 (by omega)) (by rw [iY7, I6 67 (by decide), I4 67 (by decide)]; exact fY.1 67 (by unfold regI; omega)) (xA 29 (by omega)) (yA 43 (by omega))
  · exact h3.cg (xA 30 (by omega)) (yA 27 (by omega))
  · refine ⟨?_, ?_⟩
    · rw [iX7 15 (by decide), iX6 15 (by unfold stI; decide), iY7, I6 10 (by decide), eX4, gI_ne (by decide), gI_ne (by decide), eY4, gI_ne (by decide), m2, eY2, gI_ne (by decide), gI_at, eX2]
      rfl
    · rw [iX7 16 (by decide), iX6 16 (by unfold stI; decide), iY7, I6 11 (by decide), eX4, gI_ne (by decide), gI_ne (by decide), eY4, gI_ne (by decide), m2, eY2, gI_at, eX2]
      rfl
  · obtain ⟨L, l1, l2, l3, l4, l5⟩ := h5
    refine ⟨0, by omega, ?_, ?_, by rw [xA 6 (by omega), yA 1 (by omega)]; exact l4, fun i hi => by omega⟩
    · rw [iX7 641 (by decide), iX6 641 (by unfold stI; decide), eX4, gI_ne (by decide), gI_ne (by decide), eX2]
      rfl
    · rw [iY7, I6 1 (by decide), I4 1 (by decide), y1]
      rfl
  · exact h6.cg (xA 4 (by omega))
theorem cTown {n0 : Nat} {MX MY : Mem} (hn : 1700 ≤ n0) (h : R n0 MX MY) : Cal n0 (fX11_town n0 MX) (fX12_town n0 MY) := by
  obtain ⟨q, b, T, nr, C, m, pm, s, h⟩ := h
  obtain ⟨h1, h2, h3, h4, h5, h6, h7⟩ := id h
  have hq := h1.1
  have hb := h1.2.2.2.2.1.2.2.1
  have hok := h1.2.2.2.1.2.1
  have hl := h2.2.2.l
  obtain ⟨L, l1, l2, l3, l4, l5⟩ := h7.2.2.2.2.1
  rcases townC (n0 := n0) (q := 78 - q) (b := 1 - b) hn (by omega) (by omega) (by rw [h1.2.2.2.2.1.2.2.2.1]; congr 1; omega) l1 l2 l3 l4 l5 h7.2.2.2.2.2 with ⟨X1, Y1, sx, nt, nc, nd, nr', C', j, k1, k2, _, k4, k5, fX, fY, y1⟩ | ⟨X1, Y1, j, k1, k2, kF, fX, fY, y1⟩
  · obtain ⟨x0, f, u, e, a1, a2, a3, a4, a5, a6, a7, _⟩ := h5
    exact townGood hn (by omega) (by omega) (by rw [h1.2.1]; omega) h1.2.2.1 h7 (x0 := (x0 + u) % 20) (by omega) a2 a4 a6 k1 k2 k4 k5 fX fY y1
  · obtain ⟨k, f1, f2, f3, f4, f5⟩ := kF
    have hX2 : ∃ X2, X2 = sI (sI (sI X1 641 0) 15 (gI X1 391)) 16 (gI X1 392) := ⟨_, rfl⟩
    obtain ⟨X2, eX⟩ := hX2
    have hY2 : ∃ Y2, Y2 = sI (sI Y1 10 (gI Y1 8)) 11 (gI Y1 9) := ⟨_, rfl⟩
    obtain ⟨Y2, eY⟩ := hY2
    have xI : ∀ k, ¬ (k = 641 ∨ k = 15 ∨ k = 16) → ¬ (rgX (78 - q) k ∨ k = 128 * (78 - q)) → gI X2 k = gI MX k := fun k z1 z2 => by rw [eX, gI_ne (by omega), gI_ne (by omega), gI_ne (by omega)]; exact fX.1 k z2
    have xA : ∀ a, ¬ (78 - q ≤ a ∧ a < 78 - q + 16) → gA X2 a = gA MX a := fun a z => by rw [eX]; exact fX.2.1 a z
    have xR : ∀ k, ¬ k = 257 → ¬ k = 130 → gR X2 k = gR MX k := fun k z1 z2 => by rw [eX]; exact fX.2.2 k z1 z2
    have yI : ∀ k, ¬ (k = 10 ∨ k = 11) → ¬ (regI k ∨ k = 1 ∨ k = 2 ∨ k = 34) → gI Y2 k = gI MY k := fun k z1 z2 => by rw [eY, gI_ne (by omega), gI_ne (by omega)]; exact fY.1 k z2
    have yA : ∀ a i, ¬ regA (1 - b) a i → gA Y2 a i = gA MY a i := fun a i z => by rw [eY]; exact fY.2.1 a i z
    have yA2 : ∀ a, a = 1 ∨ 27 ≤ a → gA Y2 a = gA MY a := fun a z => by
      funext i
      exact yA a i (by unfold regA; omega)
    have yB : ∀ a i, ¬ regB (1 - b) a i → gB Y2 a i = gB MY a i := fun a i z => by rw [eY]; exact fY.2.2.2 a i z
    have hR : R n0 X2 Y2 := by
      refine ⟨q, b, T, nr, C, m, pm, s, h1.tw ⟨fun j z1 z2 => xI j (by omega) (by unfold rgX; omega), fun a z1 z2 => xA a (by omega)⟩ ⟨fun a i z1 z2 => yA a i (by unfold regA at z2 ⊢; omega), fun a i z => yB a i (by unfold regB at z ⊢; omega)⟩ (yI 13 (by decide) (by unfold regI; omega)) (xR 1 (by decide) (by decide)) (xR 2 (by decide) (by decide)), h2, ?_, h4.cg hok.2.1 (by omega) (fun a i z => by rw [yA2 a (by unfold lP tP dP at z; omega)]), h5.cg hok ⟨[], (List.append_nil _).symm⟩ (fun p z1 z2 => xA p (by omega)) (xI 2049 (by decide) (by unfold rgX; omega)) (xI 2050 (by decide) (by unfold rgX; omega)) (yI 53 (by decide) (by unfold regI; omega)) (yI 54 (by decide) (by unfold regI; omega)) (fun a i z => by rw [yA2 a (by unfold uP at z; omega)]), h6.cg (xI 2688 (by decide) (by unfold rgX; omega)) (yI 61 (by decide) (by unfold regI; omega)) (fun a z1 z2 => xA a (by omega)) (fun a z1 z2 => yA2 a (by omega)), ?_⟩
      · obtain ⟨s1, s2, s3, s4, s5, s6, s7⟩ := h3
        refine ⟨(xR 896 (by decide) (by decide)).trans s1, (xR 1280 (by decide) (by decide)).trans s2, (xI 1281 (by decide) (by unfold rgX; omega)).trans s3, fun c hc => ?_, fun d hd => ?_, (xI 1285 (by decide) (by unfold rgX; omega)).trans s6, fun i p hp => ?_⟩
        · rw [xA 11 (by omega), xA 12 (by omega)]; exact s4 c hc
        · rw [xA 13 (by omega)]; exact s5 d hd
        · rw [xA 14 (by omega), xA 15 (by omega)]; exact s7 i p hp
      · obtain ⟨o1, o2, o3, o4, o5, o6⟩ := h7
        refine ⟨o1.cg (xI 17 (by decide) (by unfold rgX; omega)) ?_, o2.cg (xI 14 (by decide) (by unfold rgX; omega)) (yI 67 (by decide) (by unfold regI; omega)) (xA 29 (by omega)) (yA2 43 (by omega)), o3.cg (xA 30 (by omega)) (yA2 27 (by omega)), ⟨?_, ?_⟩, ⟨0, by omega, ?_, ?_, by rw [yA2 1 (by omega), xA 6 (by omega)]; exact l4, fun i hi => by omega⟩, o6.cg (xA 4 (by omega))⟩
        · rw [eY]; exact fY.2.2.1 55 (by decide)
        · rw [eX, gI_ne (by decide), gI_at, eY, gI_ne (by decide), gI_at, f3, f4]
        · rw [eX, gI_at, eY, gI_at, f5]
        · rw [eX, gI_ne (by decide), gI_ne (by decide), gI_at]; rfl
        · rw [eY, gI_ne (by decide), gI_ne (by decide), y1]; rfl
    refine Cal.ref (k := 1) (r := -1) hR (by decide) ?_ ?_
    · unfold fX11_town
      rw [h1.2.2.1]
      refine eq_b k1 (eq_n (eq_n (eq_e (v' := X2) (by rw [eX]; rfl) (eq_t rfl (eq_b (xref (k := 1) (by decide)) rfl)))))
    · rw [k2]
      unfold fX12_town_196
      refine eq_n (eq_e (v' := Y2) (by rw [eY]; rfl) (eq_f ?_ (eq_b (yref (k := 1) (by decide)) rfl)))
      rw [eY, gI_ne (by decide), gI_ne (by decide), f4]
      exact nI_ge (a := 0) (by omega) (by omega)
