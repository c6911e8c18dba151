/-! A TOWN ON BOTH SIDES, FROM THE CALL TO ITS ANSWER -/
abbrev xbD (n0 q1 : Nat) : Nat → Int32 → Mem → Option Mem := loopN (bX6_begin_50 n0 q1) (fun _ _ => none)
theorem xb50 {n0 q1 nd : Nat} (h6 : nd ≤ 6) : ∀ w d M, d ≤ nd → nd < w + d → gI M (128 * gR M 1280 + 12) = nI nd → ∃ M', xbD n0 q1 w (nI d) M = some M' ∧ (∀ e, d ≤ e → e < nd → gA M' 13 e = 0) ∧ gR M' = gR M ∧ gL M' = gL M ∧ gB M' = gB M ∧ gI M' = gI M ∧ ∀ a i, ¬ (a = 13 ∧ d ≤ i) → gA M' a i = gA M a i
  | 0, d, M, hd, hw, _ => by omega
  | w + 1, d, M, hd, hw, h12 => by
    show ∃ M', bX6_begin_50 n0 q1 (xbD n0 q1 w) (nI d) M = _ ∧ _
    unfold bX6_begin_50
    by_cases g : d = nd
    · exact ⟨M, eq_t (by rw [h12, g]; exact Int32.le_refl _) rfl, fun e h1 h2 => by omega, rfl, rfl, rfl, rfl, fun _ _ _ => rfl⟩
    · have cd : (nI d).toNatClampNeg = d := nI_clamp (by omega)
      obtain ⟨M', r1, r2, r3, r4, r5, r6, r7⟩ := xb50 h6 w (d + 1) (sA M 13 d 0) (by omega) (by omega) h12
      refine ⟨M', eq_f (by rw [h12]; exact nI_ge (by omega) (by omega)) (eq_f (nI_in (by omega) (by decide)) (eq_e (v' := sA M 13 d 0) (by rw [cd]) ?_)), fun e h1 h2 => ?_, r3, r4, r5, r6, fun a i z => ?_⟩
      · rw [show nI d + 1 = nI (d + 1) from nI_add d 1]
        exact r1
      · by_cases h : e = d
        · rw [h, r7 13 d (by omega), gA_sA, if_pos rfl, if_pos rfl]
        · exact r2 e (by omega) h2
      · rw [r7 a i (by omega), gA_sA]
        by_cases h : a = 13
        · rw [if_pos h, if_neg (by omega), h]
        · rw [if_neg h]
abbrev xbC (n0 q1 : Nat) : Nat → Int32 → Mem → Option Mem := loopN (bX6_begin_17 n0 q1) (fun _ _ => none)
theorem xb17 {n0 q1 nc nd : Nat} {pa : Nat → Int32} (hn : 1700 ≤ n0) (h5 : nc ≤ 5) (h6 : nd ≤ 6) : ∀ w c M, c ≤ nc → nc < w + c → gI M (128 * gR M 1280 + 5) = nI nc → gI M (128 * gR M 1280 + 12) = nI nd → 15 < gR M 1280 → (∀ j, j < nc → gA M (gR M 1280 + 5) j = pa j) → ∃ M', xbC n0 q1 w (nI c) M = some M' ∧ (∀ j, c ≤ j → j < nc → gA M' 11 j = pa j ∧ gA M' 12 j = 0) ∧ (∀ e, e < nd → gA M' 13 e = 0) ∧ gR M' = gR M ∧ gL M' = gL M ∧ gB M' = gB M ∧ gI M' = gI M ∧ ∀ a i, ¬ (a = 13 ∨ ((a = 11 ∨ a = 12) ∧ c ≤ i)) → gA M' a i = gA M a i
  | 0, c, M, hc, hw, _, _, _, _ => by omega
  | w + 1, c, M, hc, hw, e5, e12, hq, hp => by
    show ∃ M', bX6_begin_17 n0 q1 (xbC n0 q1 w) (nI c) M = _ ∧ _
    unfold bX6_begin_17
    by_cases g : c = nc
    · obtain ⟨M', r1, r2, r3, r4, r5, r6, r7⟩ := xb50 (n0 := n0) (q1 := q1) h6 n0 0 M (by omega) (by omega) e12
      exact ⟨M', eq_t (by rw [e5, g]; exact Int32.le_refl _) r1, fun j h1 h2 => by omega, fun e he => r2 e (by omega) he, r3, r4, r5, r6, fun a i z => r7 a i (by omega)⟩
    · have cc : (nI c).toNatClampNeg = c := nI_clamp (by omega)
      have pt : fX6_put n0 (nI c) (gA M (gR M 1280 + 5) (nI c).toNatClampNeg) M = some (sA (sA M 11 c (pa c)) 12 c 0) := by
        rw [cc, hp c (by omega)]
        unfold fX6_put
        simp only [cc]
        exact eq_f (nI_nn (by omega)) (eq_f (nI_ge (b := 5) (by omega) (by decide)) (eq_f (nI_in (by omega) (by decide)) (eq_n (eq_f (nI_in (by omega) (by decide)) rfl))))
      obtain ⟨M', r1, r2, r3, r4, r5, r6, r7, r8⟩ := xb17 (pa := pa) hn h5 h6 w (c + 1) (sA (sA M 11 c (pa c)) 12 c 0) (by omega) (by omega) e5 e12 hq (fun j hj => by
        show gA (sA (sA M 11 c (pa c)) 12 c 0) (gR M 1280 + 5) j = _
        rw [gA_sA_ne (by omega), gA_sA_ne (by omega)]
        exact hp j hj)
      refine ⟨M', eq_f (by rw [e5]; exact nI_ge (by omega) (by omega)) (eq_f (nI_in (by omega) (by decide)) (eq_b pt ?_)), fun j h1 h2 => ?_, r3, r4, r5, r6, r7, fun a i z => ?_⟩
      · rw [show nI c + 1 = nI (c + 1) from nI_add c 1]
        exact r1
      · by_cases h : j = c
        · rw [h, r8 11 c (by omega), r8 12 c (by omega), gA_sA_ne (by decide), gA_sA, if_pos rfl, if_pos rfl, gA_sA, if_pos rfl, if_pos rfl]
          exact ⟨rfl, rfl⟩
        · exact r2 j (by omega) h2
      · rw [r8 a i (by omega), gA_sA]
        by_cases h : a = 12
        · rw [if_pos h, if_neg (by omega), gA_sA_ne (by decide), h]
        · rw [if_neg h, gA_sA]
          by_cases h' : a = 11
          · rw [if_pos h', if_neg (by omega), h']
          · rw [if_neg h']
abbrev ybC (n0 : Nat) : Nat → Int32 → Mem → Option Mem := loopN (bX12_begin_16 n0) (fun _ _ => none)
theorem yb16 {n0 b nc : Nat} {pa : Nat → Int32} (h5 : nc ≤ 5) (hb : b ≤ 1) : ∀ w c M, c ≤ nc → nc < w + c → gI M 13 = nI b → gA M 5 b = nI nc → (∀ j, j < nc → gA M 6 (5 * b + j) = pa j) → ∃ M', ybC n0 w (nI c) M = (fX12_finishesDoings n0 0 (sI (sI (sA M' 32 0 0) 54 0) 61 0)).bind (fun z => some z.2) ∧ (∀ j, c ≤ j → j < nc → gA M' 29 j = pa j ∧ gA M' 30 j = 0) ∧ gR M' = gR M ∧ gL M' = gL M ∧ gB M' = gB M ∧ gI M' = gI M ∧ ∀ a i, ¬ ((a = 29 ∨ a = 30) ∧ c ≤ i ∧ i < 5) → gA M' a i = gA M a i
  | 0, c, M, hc, hw, _, _, _ => by omega
  | w + 1, c, M, hc, hw, h13, e5, hp => by
    show ∃ M', bX12_begin_16 n0 (ybC n0 w) (nI c) M = _ ∧ _
    have cb : (nI b).toNatClampNeg = b := nI_clamp (by omega)
    have o13 : ¬ oob (gI M 13) 2 := by rw [h13]; exact nI_in (by omega) (by decide)
    have q5 : gA M 5 (gI M 13).toNatClampNeg = nI nc := by rw [h13, cb]; exact e5
    unfold bX12_begin_16
    by_cases g : c = nc
    · exact ⟨M, eq_f o13 (eq_t (by rw [q5, g]; exact Int32.le_refl _) (eq_f (by decide) rfl)), fun j h1 h2 => by omega, rfl, rfl, rfl, rfl, fun _ _ _ => rfl⟩
    · have cc : (nI c).toNatClampNeg = c := nI_clamp (by omega)
      have c5 : (nI (5 * b + c)).toNatClampNeg = 5 * b + c := nI_clamp (by omega)
      have ix : (5 : Int32) * gI M 13 + nI c = nI (5 * b + c) := by rw [h13, yIx]
      obtain ⟨M', r1, r2, r3, r4, r5, r6, r7⟩ := yb16 (n0 := n0) (pa := pa) h5 hb w (c + 1) (sA (sA M 29 c (pa c)) 30 c 0) (by omega) (by omega) h13 (by rw [gA_sA_ne (by decide), gA_sA_ne (by decide)]; exact e5) (fun j hj => by rw [gA_sA_ne (by decide), gA_sA_ne (by decide)]; exact hp j hj)
      refine ⟨M', eq_f o13 (eq_f (by rw [q5]; exact nI_ge (by omega) (by omega)) (eq_f (by rw [ix]; exact nI_in (by omega) (by decide)) (eq_f (nI_in (by omega) (by decide)) (eq_e (v' := sA M 29 c (pa c)) (by rw [ix, cc, c5, hp c (by omega)]) (eq_f (nI_in (by omega) (by decide)) (eq_e (v' := sA (sA M 29 c (pa c)) 30 c 0) (by rw [cc]) ?_)))))), fun j h1 h2 => ?_, r3, r4, r5, r6, fun a i z => ?_⟩
      · rw [show nI c + 1 = nI (c + 1) from nI_add c 1]
        exact r1
      · by_cases h : j = c
        · rw [h, r7 29 c (by omega), r7 30 c (by omega), gA_sA_ne (by decide), gA_sA, if_pos rfl, if_pos rfl, gA_sA, if_pos rfl, if_pos rfl]
          exact ⟨rfl, rfl⟩
        · exact r2 j (by omega) h2
      · rw [r7 a i (by omega), gA_sA]
        by_cases h : a = 30
        · rw [if_pos h, if_neg (by omega), gA_sA_ne (by decide), h]
        · rw [if_neg h, gA_sA]
          by_cases h' : a = 29
          · rw [if_pos h', if_neg (by omega), h']
          · rw [if_neg h']
theorem TownR.nine {q b nt nc nd nr C : Nat} {MX MY MY' : Mem} (h : TownR q b nt nc nd nr C MX MY) (hA : ∀ a, ¬ a = 9 → gA MY' a = gA MY a) (hB : gB MY' = gB MY) : TownR q b nt nc nd nr C MX MY' := by
  have h2 : TownR q b nt nc nd nr C MX (sF MY' 9 (gA MY 9)) := h.cong (fun _ _ _ => rfl) (fun _ _ _ => rfl) (fun a i _ _ => by
    rw [gA_sF]
    by_cases z : a = 9
    · rw [if_pos z, z]
    · rw [if_neg z, hA a z]) (fun a i _ => by
    show gB MY' a i = gB MY a i
    rw [hB])
  exact h2
/-- a town's functions out of the town that was read -/
theorem townT {n0 q b nt nc nd nr C : Nat} {MX MY : Mem} (hn : 1700 ≤ n0) (hT : TownR q b nt nc nd nr C MX MY) (hq : q = 31 ∨ q = 47) (hb : b ≤ 1) (h13 : gI MY 13 = nI b) : ∃ T : TP, T.nt = nt ∧ T.nc = nc ∧ T.nd = nd ∧ XT n0 q T MX ∧ YT n0 b T MY := by
  obtain ⟨hF, gF, fx, fy⟩ := townF hn hT hq hb
  obtain ⟨⟨⟨a1, a2, a3⟩, ⟨a4, a5, a6⟩, ⟨a7, a8, a9⟩⟩, b1, b2, b3, _⟩ := hT
  have t6 := a3.1
  have c5 := a6.1
  have d6 := a9.1
  have dk : ∀ d, d < nd → gA MX (q + 10) d = nI (gA MX (q + 10) d).toNatClampNeg ∧ (gA MX (q + 10) d).toNatClampNeg < nc ∧ gA MX (q + 11) d = nI (gA MX (q + 11) d).toNatClampNeg ∧ (gA MX (q + 11) d).toNatClampNeg ≤ 23 ∧ gA MY 11 (6 * b + d) = gA MX (q + 10) d ∧ gA MY 12 (6 * b + d) = gA MX (q + 11) d := fun d hd => by
    obtain ⟨e1, ⟨k, k1, k2⟩, e2, ⟨v, v1, v2⟩⟩ := b3 d hd
    refine ⟨?_, ?_, ?_, ?_, e1.symm, e2.symm⟩
    · rw [k2, nI_clamp (by omega)]
    · rw [k2, nI_clamp (by omega)]; exact k1
    · rw [v2, nI_clamp (by omega)]
    · rw [v2, nI_clamp (by omega)]; exact v1
  have ok : TP.ok (nt, nc, nd, (fun d => (gA MX (q + 10) d).toNatClampNeg), (fun d => (gA MX (q + 11) d).toNatClampNeg), hF, gF) := ⟨t6, c5, d6, fun d hd => ⟨(dk d hd).2.1, (dk d hd).2.2.2.1⟩⟩
  exact ⟨(nt, nc, nd, (fun d => (gA MX (q + 10) d).toNatClampNeg), (fun d => (gA MX (q + 11) d).toNatClampNeg), hF, gF), rfl, rfl, rfl, ⟨⟨hq, t6, a1, fx⟩, ok, a4, a7, fun d hd => ⟨(dk d hd).1, (dk d hd).2.2.1⟩⟩, ⟨fy, ok, hb, h13, a2, a5, a8, fun d hd => ⟨(dk d hd).2.2.2.2.1.trans (dk d hd).1, (dk d hd).2.2.2.2.2.trans (dk d hd).2.2.1⟩⟩⟩
