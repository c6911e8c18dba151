/-! MINUTES BY THE SEED -/
theorem lz (k : Nat) : lN k = zL k := (Int64.ofInt_eq_ofNat (n := k)).symm
theorem lAnd (a b : Nat) : lN a &&& lN b = lN (a &&& b) := by
  apply Int64.toBitVec_inj.1
  show BitVec.ofNat 64 a &&& BitVec.ofNat 64 b = BitVec.ofNat 64 (a &&& b)
  exact BitVec.ofNat_and.symm
theorem rem_lN {a b : Nat} (ha : a < 2 ^ 63) (h0 : 0 < b) (hb : b < 2 ^ 63) : rem64 (lN a) (lN b) = lN (a % b) := by
  unfold rem64
  rw [pk_lDiv ha h0 hb, lN_mul, lN_sub (Nat.div_mul_le_self a b)]
  congr 1
  have := Nat.mod_add_div a b
  rw [Nat.mul_comm] at this
  omega
def drw (x : Nat) : Nat := (1103515245 * x + 12345) % 2147483648
theorem drw_lt (x : Nat) : drw x < 2147483648 := Nat.mod_lt _ (by decide)
theorem xdraw {n0 x k : Nat} {M : Mem} (hx : x < 2147483648) (h : gI M 17 = nI x) (hk : 0 < k) (hk2 : k ≤ 100) : fX11_draw n0 (nI k) M = some (nI (drw x / 64 % k), sI M 17 (nI (drw x))) := by
  have hd := drw_lt x
  have e : (((1103515245 : Int64) * (nI x).toInt64 + 12345) &&& 2147483647).toInt32 = nI (drw x) := by
    rw [nI_l (by omega), show (1103515245 : Int64) = lN 1103515245 from rfl, lN_mul, show (12345 : Int64) = lN 12345 from rfl, lN_add, show (2147483647 : Int64) = lN 2147483647 from rfl, lAnd, lN_i]
    unfold drw
    rw [show 2147483647 = 2 ^ 31 - 1 from rfl, Nat.and_two_pow_sub_one_eq_mod]
  unfold fX11_draw
  rw [h, e]
  refine eq_n (eq_f (nI_ge (a := 0) hk (by omega)) (eq_f (by decide) (eq_f (nI_ne0 hk (by omega)) ?_)))
  rw [gI_at, show (64 : Int32) = nI 64 from rfl, nI_div (by omega) (by decide), rem_nI (by omega) (by omega)]
theorem ydraw {n0 x k : Nat} {M : Mem} (hx : x < 2147483648) (h : gL M 55 = zL x) (hk : 0 < k) (hk2 : k ≤ 100) : fX12_draw n0 (nI k) M = some (nI (drw x / 64 % k), sL M 55 (zL (drw x))) := by
  have hd := drw_lt x
  have e : rem64 ((1103515245 : Int64) * gL M 55 + 12345) 2147483648 = lN (drw x) := by
    rw [h, ← lz, show (1103515245 : Int64) = lN 1103515245 from rfl, lN_mul, show (12345 : Int64) = lN 12345 from rfl, lN_add, show (2147483648 : Int64) = lN 2147483648 from rfl, rem_lN (by omega) (by decide) (by decide)]
    rfl
  unfold fX12_draw
  rw [e, ← lz]
  refine eq_f (by decide) (eq_n (eq_f (by decide) (eq_f ?_ ?_)))
  · rw [nI_l (by omega)]
    exact fun z => by
      have := (pk_lEQ (a := k) (b := 0) (by omega) (by decide)).mp z
      omega
  · rw [gL_sL, if_pos rfl, nI_l (by omega), show (64 : Int64) = lN 64 from rfl, pk_lDiv (by omega) (by decide) (by decide), rem_lN (by omega) hk (by omega), lN_i]
/-- a draw on both sides -/
theorem draw2 {n0 q b : Nat} {T : TP} {nr C m k : Nat} {pm : Nat → Int32 × Nat} {s : Nat × List (Nat × Nat)} {MX MY : Mem} (h : RR n0 q b T nr C m pm s MX MY) (hk : 0 < k) (hk2 : k ≤ 100) : ∃ j MX' MY', j < k ∧ fX11_draw n0 (nI k) MX = some (nI j, MX') ∧ fX12_draw n0 (nI k) MY = some (nI j, MY') ∧ RR n0 q b T nr C m pm s MX' MY' := by
  have ho := h.2.2.2.2.2.2
  obtain ⟨x, x1, x2, x3⟩ := ho.1
  refine ⟨drw x / 64 % k, _, _, Nat.mod_lt _ hk, xdraw x1 x2 hk hk2, ydraw x1 x3 hk hk2, h.ou ⟨rfl, fun k z => gI_ne (by omega), fun _ _ => rfl⟩ ⟨fun _ _ => rfl, fun _ _ => rfl, rfl⟩ ⟨⟨drw x, drw_lt x, gI_at, by rw [gL_sL, if_pos rfl]⟩, ho.2.1, ho.2.2.1, ho.2.2.2.1, ho.2.2.2.2.1, ho.2.2.2.2.2⟩⟩
/-- a passer on both sides, as far as doings -/
theorem pass2 {n0 q b : Nat} {T : TP} {nr C m : Nat} {pm : Nat → Int32 × Nat} {s : Nat × List (Nat × Nat)} {MX MY : Mem} (k25 : Int32 → Int32 → Int32 → Mem → Option (Int32 × Mem)) (x1 acc x3 : Int32) (h : RR n0 q b T nr C m pm s MX MY) : ∃ r pm' MX' MY', fX11_letPass n0 MX = some (r, MX') ∧ ((fX12_draw n0 100 MY).bind fun z38 =>
    if oob (gI z38.2 13) 2 then none else
    if (gA z38.2 13 (Int32.toNatClampNeg (gI z38.2 13))) ≤ z38.1 then
      fX12_chance_115 n0 k25 x1 acc x3 z38.2
    else
      if oob (gI z38.2 13) 2 then none else
      if (gA z38.2 5 (Int32.toNatClampNeg (gI z38.2 13))) ≤ 0 then
        fX12_chance_115 n0 k25 x1 acc x3 z38.2
      else
        if oob (gI z38.2 13) 2 then none else
        if (gA z38.2 2 (Int32.toNatClampNeg (gI z38.2 13))) ≤ 0 then
          fX12_chance_115 n0 k25 x1 acc x3 z38.2
        else
          if oob (gI z38.2 13) 2 then none else
          (fX12_draw n0 (gA z38.2 5 (Int32.toNatClampNeg (gI z38.2 13))) z38.2).bind fun z87 =>
          if oob (gI z87.2 13) 2 then none else
          (fX12_draw n0 (gA z87.2 2 (Int32.toNatClampNeg (gI z87.2 13))) z87.2).bind fun z106 =>
          (fX12_puts n0 (0 : Int32) z87.1 z106.1 z106.2).bind fun z109 =>
          fX12_chance_115 n0 k25 x1 (acc + (1 : Int32)) x3 z109) = fX12_chance_115 n0 k25 x1 (acc + r) x3 MY' ∧ RR n0 q b T nr C m pm' s MX' MY' := by
  obtain ⟨j, X1, Y1, j1, j2, j3, j4⟩ := draw2 h (k := 100) (by decide) (by decide)
  have cells : ∀ {X Y : Mem}, RR n0 q b T nr C m pm s X Y → gR X 1 = q ∧ gI X (128 * q + 5) = nI T.nc ∧ gI X (128 * q + 1) = nI T.nt ∧ ¬ oob (gI Y 13) 2 ∧ gA Y 5 (gI Y 13).toNatClampNeg = nI T.nc ∧ gA Y 2 (gI Y 13).toNatClampNeg = nI T.nt := fun {X Y} z => by
    have hb := z.1.2.2.2.2.1.2.2.1
    have h13 := z.1.2.2.2.2.1.2.2.2.1
    have cb : (gI Y 13).toNatClampNeg = b := by rw [h13]; exact nI_clamp (by omega)
    exact ⟨z.1.2.1, z.1.2.2.2.1.2.2.1, z.1.2.2.2.1.1.2.2.1, by rw [h13]; exact nI_in (by omega) (by decide), by rw [cb]; exact z.1.2.2.2.2.1.2.2.2.2.2.1, by rw [cb]; exact z.1.2.2.2.2.1.2.2.2.2.1⟩
  obtain ⟨c1, c2, c3, c4, c5, c6⟩ := cells j4
  obtain ⟨o1, o2, _⟩ := j4.1.2.2.2.1.2.1
  obtain ⟨p, p1, p2, p3⟩ := j4.1.2.2.2.2.2.1.2.2.2.2.2.1
  have hb := j4.1.2.2.2.2.1.2.2.1
  have q13 : gA Y1 13 (gI Y1 13).toNatClampNeg = nI p := by rw [j4.1.2.2.2.2.1.2.2.2.1, nI_clamp (by omega)]; exact p3
  have a0 : acc + 0 = acc := by
    apply Int32.toBitVec_inj.1
    show acc.toBitVec + 0#32 = acc.toBitVec
    exact BitVec.add_zero _
  unfold fX11_letPass
  by_cases g1 : p ≤ j
  · refine ⟨0, pm, X1, Y1, eq_b j2 (eq_t ?_ rfl), eq_b j3 (eq_f c4 (eq_t (by rw [q13]; exact nI_le g1 (by omega)) (by rw [a0]))), j4⟩
    show gI X1 (128 * gR X1 1 + 16) ≤ nI j
    rw [c1, p2]
    exact nI_le g1 (by omega)
  · have n1 : ¬ gI X1 (128 * gR X1 1 + 16) ≤ nI j := by rw [c1, p2]; exact nI_ge (by omega) (by omega)
    have n2 : ¬ gA Y1 13 (gI Y1 13).toNatClampNeg ≤ nI j := by rw [q13]; exact nI_ge (by omega) (by omega)
    by_cases g2 : T.nc = 0
    · refine ⟨0, pm, X1, Y1, eq_b j2 (eq_f n1 (eq_t ?_ rfl)), eq_b j3 (eq_f c4 (eq_f n2 (eq_f c4 (eq_t (by rw [c5, g2]; decide) (by rw [a0]))))), j4⟩
      show gI X1 (128 * gR X1 1 + 5) = 0
      rw [c1, c2, g2]
      rfl
    · have n3 : ¬ gI X1 (128 * gR X1 1 + 5) = 0 := by rw [c1, c2]; exact nI_ne0 (by omega) (by omega)
      have n4 : ¬ gA Y1 5 (gI Y1 13).toNatClampNeg ≤ 0 := by rw [c5]; exact nI_ge (a := 0) (by omega) (by omega)
      by_cases g3 : T.nt = 0
      · refine ⟨0, pm, X1, Y1, eq_b j2 (eq_f n1 (eq_f n3 (eq_t ?_ rfl))), eq_b j3 (eq_f c4 (eq_f n2 (eq_f c4 (eq_f n4 (eq_f c4 (eq_t (by rw [c6, g3]; decide) (by rw [a0]))))))), j4⟩
        show gI X1 (128 * gR X1 1 + 1) = 0
        rw [c1, c3, g3]
        rfl
      · have n5 : ¬ gI X1 (128 * gR X1 1 + 1) = 0 := by rw [c1, c3]; exact nI_ne0 (by omega) (by omega)
        have n6 : ¬ gA Y1 2 (gI Y1 13).toNatClampNeg ≤ 0 := by rw [c6]; exact nI_ge (a := 0) (by omega) (by omega)
        obtain ⟨j', X2, Y2, d1, d2, d3, d4⟩ := draw2 j4 (k := T.nc) (by omega) (by omega)
        obtain ⟨e1, e2, e3, e4, e5, e6⟩ := cells d4
        obtain ⟨j'', X3, Y3, f1, f2, f3, f4⟩ := draw2 d4 (k := T.nt) (by omega) (by omega)
        obtain ⟨X4, Y4, u1, u2, u3⟩ := put2 f4 d1 (t := nI j'') (Or.inr ⟨j'', f1, rfl⟩)
        refine ⟨1, _, X4, Y4, eq_b j2 (eq_f n1 (eq_f n3 (eq_f n5 (eq_b (z := (nI j', X2)) ?_ (eq_b (z := (nI j'', X3)) ?_ (eq_b u1 rfl)))))), eq_b j3 (eq_f c4 (eq_f n2 (eq_f c4 (eq_f n4 (eq_f c4 (eq_f n6 (eq_f c4 (eq_b (z := (nI j', Y2)) ?_ (eq_f e4 (eq_b (z := (nI j'', Y3)) ?_ (eq_b u2 rfl))))))))))), u3⟩
        · show fX11_draw n0 (gI X1 (128 * gR X1 1 + 5)) X1 = _
          rw [c1, c2]
          exact d2
        · show fX11_draw n0 (gI X2 (128 * gR X2 1 + 1)) X2 = _
          rw [e1, e3]
          exact f2
        · show fX12_draw n0 (gA Y1 5 (gI Y1 13).toNatClampNeg) Y1 = _
          rw [c5]
          exact d3
        · show fX12_draw n0 (gA Y2 2 (gI Y2 13).toNatClampNeg) Y2 = _
          rw [e6]
          exact f3
abbrev xhL (n0 : Nat) : Nat → Int32 → Int32 → Int32 → Mem → Option (Int32 × Mem) := loopN (bX11_chance_40 n0) (fun _ _ _ _ => none)
abbrev yhL (n0 : Nat) : Nat → Int32 → Int32 → Int32 → Mem → Option (Int32 × Mem) := loopN (bX12_chance_25 n0) (fun _ _ _ _ => none)
theorem chL {n0 q b : Nat} {T : TP} {nr C n : Nat} (hn : 1700 ≤ n0) (h100 : n ≤ 100) : ∀ w k m (acc : Int32) (pm : Nat → Int32 × Nat) (s : Nat × List (Nat × Nat)) (MX MY : Mem), k ≤ n → n < w + k → m + (n - k) ≤ 9999 → RR n0 q b T nr C m pm s MX MY → ∃ r MX' MY', xhL n0 w (nI n) acc (nI k) MX = some (r, MX') ∧ yhL n0 w (nI n) acc (nI k) MY = some (r, MY') ∧ R n0 MX' MY'
  | 0, k, _, _, _, _, _, _, hk, hw, _, _ => by omega
  | w + 1, k, m, acc, pm, s, MX, MY, hk, hw, hm, h => by
    show ∃ r MX' MY', bX11_chance_40 n0 (xhL n0 w) (nI n) acc (nI k) MX = _ ∧ bX12_chance_25 n0 (yhL n0 w) (nI n) acc (nI k) MY = _ ∧ _
    unfold bX11_chance_40 bX12_chance_25
    by_cases g : k = n
    · rw [g]
      exact ⟨acc, MX, MY, eq_t (Int32.le_refl _) rfl, eq_t (Int32.le_refl _) rfl, q, b, T, nr, C, m, pm, s, h⟩
    · have hc : ¬ nI n ≤ nI k := nI_ge (by omega) (by omega)
      obtain ⟨X1, Y1, a1, a2, a3⟩ := tick2 hn h (by omega)
      obtain ⟨r, pm', X2, Y2, b1, b2, b3⟩ := pass2 (yhL n0 w) (nI n) acc (nI k) a3
      obtain ⟨r2, X3, Y3, c1, c2, c3⟩ := due2 hn b3
      obtain ⟨r', X4, Y4, d1, d2, d3⟩ := chL hn h100 w (k + 1) (m + 1) (acc + r) _ _ X3 Y3 (by omega) (by omega) (by omega) c3
      have k1 : nI k + 1 = nI (k + 1) := nI_add k 1
      refine ⟨r', X4, Y4, eq_f hc (eq_b a1 (eq_b b1 (eq_n (eq_b c1 ?_)))), eq_f hc (eq_b a2 (b2.trans ?_)), d3⟩
      · rw [k1]; exact d1
      · unfold fX12_chance_115
        refine eq_b c2 ?_
        rw [k1]; exact d2
theorem cChance {n0 : Nat} {x : Int32} {MX MY : Mem} (hn : 1700 ≤ n0) (h : R n0 MX MY) : Cal n0 (fX11_chance n0 x MX) (fX12_chance n0 x MY) := by
  have h0 := h
  obtain ⟨q, b, T, nr, C, m, pm, s, h⟩ := h
  have hm := h.2.1.1
  have y : gA MY 28 0 = nI m := h.2.2.2.1.1.1
  have bad : ∀ f g, f = fX11_chance_19 n0 MX → g = (fX12_refuses n0 2 MY).bind (fun z13 => some (z13.1, z13.2)) → Cal n0 f g := fun f g e1 e2 => by
    refine Cal.ref (k := 2) (r := -1) h0 (by decide) (e1.trans ?_) (e2.trans ?_)
    · unfold fX11_chance_19
      exact eq_b (xref (k := 2) (by decide)) rfl
    · exact eq_b (yref (k := 2) (by decide)) rfl
  unfold fX11_chance fX12_chance
  rcases yah (n0 := n0) (lo := 1) (hi := 100) x y hm (by decide) (by decide) with ⟨k, k1, k2, k3, rfl, e⟩ | ⟨z, e⟩
  · rcases ahead2 h k k2 with ⟨_, e1, _⟩ | ⟨g, _⟩
    · obtain ⟨X1, Y1, a1, a2, a3⟩ := remem hn h
      obtain ⟨r, X2, Y2, b1, b2, b3⟩ := chL hn k2 n0 0 m 0 pm s X1 Y1 (by omega) (by omega) (by omega) a3
      exact ⟨r, X2, Y2, eq_f (fun z => by have := (nI_ltI (b := 1) (by omega) (by decide)).mp z; omega) (eq_f (fun z => by have := (nI_ltI (a := 100) (by decide) (by omega)).mp z; omega) (eq_b e1 (eq_t rfl (eq_b a1 b1)))), eq_b e (eq_f (show ¬ (1 : Int32) = 0 by decide) (eq_b a2 b2)), b3⟩
    · exact absurd k3 g
  · refine bad _ _ ?_ (eq_b e (eq_t rfl rfl))
    rcases z with z | z | ⟨k, k1, k2, rfl, k3⟩
    · exact eq_t z rfl
    · by_cases g : x < 1
      · exact eq_t g rfl
      · exact eq_f g (eq_t z rfl)
    · rcases ahead2 h k k2 with ⟨g, _⟩ | ⟨_, e1, _⟩
      · exact absurd g k3
      · exact eq_f (fun z => by have := (nI_ltI (b := 1) (by omega) (by decide)).mp z; omega) (eq_f (fun z => by have := (nI_ltI (a := 100) (by decide) (by omega)).mp z; omega) (eq_b e1 (eq_f (show ¬ (1 : Int32) = 0 by decide) rfl)))
