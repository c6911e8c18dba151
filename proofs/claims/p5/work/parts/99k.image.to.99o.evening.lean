section
/-! AN IMAGE ON BOTH SIDES -/
theorem shr8 {n : Nat} (h : n < 2 ^ 31) : nI n >>> ((8 : Int32) &&& 31) = nI (n / 256) := pk_shrN h _ 8 (by decide)
theorem and255 (n : Nat) : nI n &&& 255 = nI (n % 256) := by
  rw [show (255 : Int32) = nI 255 from rfl, nAnd, show 255 = 2 ^ 8 - 1 from rfl, Nat.and_two_pow_sub_one_eq_mod]
def ckN (bv : Nat → Nat) : Nat → Nat
  | 0 => 227
  | k + 1 => (5 * ckN bv k + bv k) % 251
theorem ckN_lt (bv : Nat → Nat) : ∀ k, ckN bv k < 251
  | 0 => (by decide : 227 < 251)
  | k + 1 => Nat.mod_lt _ (by decide)
theorem ck1 {bv : Nat → Nat} {k : Nat} (h : bv k < 256) : rem32 ((5 : Int32) * nI (ckN bv k) + nI (bv k)) 251 = nI (ckN bv (k + 1)) := by
  have := ckN_lt bv k
  rw [show (5 : Int32) = nI 5 from rfl, nI_mul, nI_add, show (251 : Int32) = nI 251 from rfl, rem_nI (by omega) (by decide)]
  rfl
theorem xck {n0 q0 n : Nat} {bv : Nat → Nat} {M : Mem} (hl : n ≤ LX.ln q0) (hl2 : LX.ln q0 ≤ 1600) (hb : ∀ j, j < n → gA M q0 j = nI (bv j) ∧ bv j < 256) : ∀ w k, k ≤ n → n < w + k → loopN (bX6_checkOf_6 n0 q0) (fun _ _ _ _ => none) w (nI n) (nI (ckN bv k)) (nI k) M = some (nI (ckN bv n), M)
  | 0, k, hk, hw => by omega
  | w + 1, k, hk, hw => by
    show bX6_checkOf_6 n0 q0 (loopN (bX6_checkOf_6 n0 q0) (fun _ _ _ _ => none) w) (nI n) (nI (ckN bv k)) (nI k) M = _
    unfold bX6_checkOf_6
    by_cases g : k = n
    · rw [g]
      exact eq_t (Int32.le_refl _) rfl
    · have ck : (nI k).toNatClampNeg = k := nI_clamp (by omega)
      refine eq_f (nI_ge (by omega) (by omega)) (eq_f (nI_ge (b := LX.ln q0) (by omega) (by omega)) (eq_f (nI_in (by omega) (by omega)) (eq_f (by decide) (eq_e (v' := nI (ckN bv (k + 1))) ?_ ?_))))
      · rw [ck, (hb k (by omega)).1, ck1 (hb k (by omega)).2]
      · rw [show nI k + 1 = nI (k + 1) from nI_add k 1]
        exact xck (n0 := n0) hl hl2 hb w (k + 1) (by omega) (by omega)
def ImR (n : Nat) (MX MY : Mem) : Prop := gI MY 67 = nI n ∧ ∀ k, k < n → ∃ v, v < 256 ∧ gA MX 29 k = nI v ∧ gA MY 43 k = nI v
def XIm (M M' : Mem) : Prop := gR M' = gR M ∧ gL M' = gL M ∧ gB M' = gB M ∧ gI M' = gI M ∧ ∀ a, ¬ a = 29 → gA M' a = gA M a
def YIm (M M' : Mem) : Prop := gR M' = gR M ∧ gL M' = gL M ∧ gB M' = gB M ∧ (∀ k, ¬ k = 67 → gI M' k = gI M k) ∧ ∀ a, ¬ a = 43 → gA M' a = gA M a
theorem XIm.r {M : Mem} : XIm M M := ⟨rfl, rfl, rfl, rfl, fun _ _ => rfl⟩
theorem XIm.tr {M M' M2 : Mem} (h : XIm M M') (g : XIm M' M2) : XIm M M2 := ⟨g.1.trans h.1, g.2.1.trans h.2.1, g.2.2.1.trans h.2.2.1, g.2.2.2.1.trans h.2.2.2.1, fun a z => (g.2.2.2.2 a z).trans (h.2.2.2.2 a z)⟩
theorem XIm.a {M M' : Mem} {i : Nat} {v : Int32} (h : XIm M M') : XIm M (sA M' 29 i v) := ⟨h.1, h.2.1, h.2.2.1, h.2.2.2.1, fun a z => (gA_sA_ne z).trans (h.2.2.2.2 a z)⟩
theorem YIm.r {M : Mem} : YIm M M := ⟨rfl, rfl, rfl, fun _ _ => rfl, fun _ _ => rfl⟩
theorem YIm.tr {M M' M2 : Mem} (h : YIm M M') (g : YIm M' M2) : YIm M M2 := ⟨g.1.trans h.1, g.2.1.trans h.2.1, g.2.2.1.trans h.2.2.1, fun a z => (g.2.2.2.1 a z).trans (h.2.2.2.1 a z), fun a z => (g.2.2.2.2 a z).trans (h.2.2.2.2 a z)⟩
theorem imp {n0 n v : Nat} {x : Int32} {M N : Mem} (h : ImR n M N) (hn : n < 24) (hv : v < 256) (hx : x &&& 255 = nI v) : ∃ N', fX12_writes n0 x N = some N' ∧ ImR (n + 1) (sA M 29 n (nI v)) N' ∧ YIm N N' := by
  have cn : (nI n).toNatClampNeg = n := nI_clamp (by omega)
  refine ⟨sI (sA N 43 n (nI v)) 67 (nI (n + 1)), ?_, ⟨gI_at, fun k hk => ?_⟩, ⟨rfl, rfl, rfl, fun k z => gI_ne z, fun a z => gA_sA_ne z⟩⟩
  · unfold fX12_writes
    refine eq_f (by rw [h.1]; exact nI_in (by omega) (by decide)) (eq_e (v' := sA N 43 n (nI v)) (by rw [h.1, cn, hx]) ?_)
    rw [gI_sA, h.1, show nI n + 1 = nI (n + 1) from nI_add n 1]
  · show ∃ v', v' < 256 ∧ gA (sA M 29 n (nI v)) 29 k = nI v' ∧ gA (sA N 43 n (nI v)) 43 k = nI v'
    rw [gA_sA, if_pos rfl, gA_sA, if_pos rfl]
    by_cases z : k = n
    · rw [if_pos z, if_pos z]
      exact ⟨v, hv, rfl, rfl⟩
    · rw [if_neg z, if_neg z]
      exact h.2 k (by omega)
theorem ln29 : LX.ln 29 = 24 := rfl
theorem ImR.wr {n v : Nat} {M N : Mem} (h : ImR n M N) {k : Nat} (hk : n ≤ k) (w : Int32) : ImR n (sA M 29 k w) N := ⟨h.1, fun j hj => by
  rw [gA_sA, if_pos rfl, if_neg (by omega)]
  exact h.2 j hj⟩
abbrev xiL (n0 : Nat) : Nat → Int32 → Int32 → Mem → Option (Int32 × Mem) := loopN (bX6_writeImage_36 n0 29) (fun _ _ _ => none)
abbrev yiL (n0 : Nat) : Nat → Int32 → Mem → Option (Int32 × Mem) := loopN (bX12_image_30 n0) (fun _ _ => none)
theorem thb {nt : Nat} {t : Int32} (h : tOk nt t) (hn : nt ≤ 6) : ∃ v, v < 256 ∧ t &&& 255 = nI v ∧ ((t = -1 ∧ v = 255) ∨ (¬ t = -1 ∧ t = nI v)) := by
  rcases h with h | ⟨k, hk, h⟩
  · exact ⟨255, by decide, by rw [h]; decide, Or.inl ⟨h, rfl⟩⟩
  · refine ⟨k, by omega, by rw [h, and255, Nat.mod_eq_of_lt (by omega)], Or.inr ⟨?_, h⟩⟩
    rw [h]
    exact nI_m1 (by omega)
theorem imC {n0 q b m : Nat} {T : TP} {pm : Nat → Int32 × Nat} {s : Nat × List (Nat × Nat)} {MX MY : Mem} {x2 : Int32} (hT : XT n0 q T MX) (hY : YT n0 b T MY) (hS : SX q T.nc T.nd m pm s MX) (hL : LyD 0 T.nc m pm s MY) (hO : PsO T.nt T.nc pm) : ∀ w c M N, c ≤ T.nc → T.nc < w + c → ImR (2 + 3 * c) M N → XIm MX M → YIm MY N → ∃ M' N', xiL n0 w x2 (nI c) M = fX6_writeImage_119 n0 29 x2 0 M' ∧ yiL n0 w (nI c) N = fX12_image_84 n0 0 N' ∧ ImR (2 + 3 * T.nc) M' N' ∧ XIm MX M' ∧ YIm MY N'
  | 0, c, M, N, hc, hw, _, _, _ => by omega
  | w + 1, c, M, N, hc, hw, hI, hx, hy => by
    show ∃ M' N', bX6_writeImage_36 n0 29 (xiL n0 w) x2 (nI c) M = _ ∧ bX12_image_30 n0 (yiL n0 w) (nI c) N = _ ∧ _
    obtain ⟨o1, o2, o3, _⟩ := hT.2.1
    have hb := hY.2.2.1
    have q5 : gI M (128 * gR M 1280 + 5) = nI T.nc := by rw [hx.1, hS.2.1, hx.2.2.2.1]; exact hT.2.2.1
    have i13 : gI N 13 = nI b := (hy.2.2.2.1 13 (by decide)).trans hY.2.2.2.1
    have o13 : ¬ oob (gI N 13) 2 := by rw [i13]; exact nI_in (by omega) (by decide)
    have y5 : gA N 5 (gI N 13).toNatClampNeg = nI T.nc := by rw [i13, nI_clamp (by omega), hy.2.2.2.2 5 (by decide)]; exact hY.2.2.2.2.2.1
    unfold bX6_writeImage_36 bX12_image_30
    by_cases g : c = T.nc
    · subst g
      exact ⟨M, N, eq_t (by rw [q5]; exact Int32.le_refl _) rfl, eq_f o13 (eq_t (by rw [y5]; exact Int32.le_refl _) rfl), hI, hx, hy⟩
    · have hcn : c < T.nc := by omega
      have cc : (nI c).toNatClampNeg = c := nI_clamp (by omega)
      have px := hS.2.2.2.1 c hcn
      have py := hL.1.2 c hcn
      rw [show 5 * 0 + c = c by omega] at py
      have ok := hO c hcn
      have ok2 := ok.2
      obtain ⟨v, v1, v2, v3⟩ := thb ok.1 o1
      obtain ⟨N1, a1, a2, a3⟩ := imp (n0 := n0) hI (by omega) v1 v2
      obtain ⟨N2, b1, b2, b3⟩ := imp (n0 := n0) (v := (pm c).2 / 256) (x := nI (pm c).2 >>> ((8 : Int32) &&& 31)) a2 (by omega) (by omega) (by rw [shr8 (by omega), and255, Nat.mod_eq_of_lt (by omega)])
      obtain ⟨N3, c1, c2, c3⟩ := imp (n0 := n0) (v := (pm c).2 % 256) (x := nI (pm c).2) b2 (by omega) (by omega) (and255 _)
      have fy := hy.tr (a3.tr (b3.tr c3))
      have fx := ((hx.a (i := 2 + 3 * c) (v := nI v)).a (i := 2 + 3 * c + 1) (v := nI ((pm c).2 / 256))).a (i := 2 + 3 * c + 1 + 1) (v := nI ((pm c).2 % 256))
      obtain ⟨M', N', r1, r2, r3, r4, r5⟩ := imC (x2 := x2) hT hY hS hL hO w (c + 1) _ N3 (by omega) (by omega) (show ImR (2 + 3 * (c + 1)) _ _ from c2) fx fy
      have k1 : nI c + 1 = nI (c + 1) := nI_add c 1
      have ix : (2 : Int32) + 3 * nI c = nI (2 + 3 * c) := by rw [n3, show (2 : Int32) = nI 2 from rfl, nI_add]
      have x79 : ∀ M0 : Mem, M0 = M → fX6_writeImage_79 n0 29 (xiL n0 w) x2 (nI c) (nI (2 + 3 * c)) (nI (2 + 3 * c)) (nI v) M0 = xiL n0 w x2 (nI (c + 1)) (sA (sA (sA M 29 (2 + 3 * c) (nI v)) 29 (2 + 3 * c + 1) (nI ((pm c).2 / 256))) 29 (2 + 3 * c + 1 + 1) (nI ((pm c).2 % 256))) := fun M0 e0 => by
        subst e0
        have d0 : (nI (2 + 3 * c)).toNatClampNeg = 2 + 3 * c := nI_clamp (by omega)
        have d1 : (nI (2 + 3 * c + 1)).toNatClampNeg = 2 + 3 * c + 1 := nI_clamp (by omega)
        have d2 : (nI (2 + 3 * c + 2)).toNatClampNeg = 2 + 3 * c + 2 := nI_clamp (by omega)
        have j1 : nI (2 + 3 * c) + 1 = nI (2 + 3 * c + 1) := nI_add _ 1
        have j2 : nI (2 + 3 * c) + 2 = nI (2 + 3 * c + 2) := nI_add _ 2
        have h12 : gA M0 12 c = nI (pm c).2 := by rw [hx.2.2.2.2 12 (by decide)]; exact px.2
        unfold fX6_writeImage_79
        rw [ln29]
        simp only [cc, d0, j1, d1, j2, d2]
        refine eq_f (nI_in (by omega) (by decide)) (eq_n (eq_f (nI_in (by omega) (by decide)) (eq_f (nI_in (by omega) (by decide)) (eq_e (v' := sA (sA M0 29 (2 + 3 * c) (nI v)) 29 (2 + 3 * c + 1) (nI ((pm c).2 / 256))) ?_ (eq_f (nI_in (by omega) (by decide)) (eq_f (nI_in (by omega) (by decide)) (eq_e (v' := sA (sA (sA M0 29 (2 + 3 * c) (nI v)) 29 (2 + 3 * c + 1) (nI ((pm c).2 / 256))) 29 (2 + 3 * c + 1 + 1) (nI ((pm c).2 % 256))) ?_ ?_)))))))
        · rw [gA_sA_ne (by decide), h12, shr8 (by omega)]
        · rw [gA_sA_ne (by decide), gA_sA_ne (by decide), h12, and255]
        · rw [k1]
      refine ⟨M', N', ?_, ?_, r3, r4, r5⟩
      · refine eq_f (by rw [q5]; exact nI_ge hcn (by omega)) (eq_e ix (eq_f (nI_in (by omega) (by decide)) ?_))
        rw [show gA M 11 (nI c).toNatClampNeg = (pm c).1 by rw [cc, hx.2.2.2.2 11 (by decide), px.1]]
        rcases v3 with ⟨z1, z2⟩ | ⟨z1, z2⟩
        · refine eq_t z1 ?_
          subst z2
          exact (x79 M rfl).trans r1
        · refine eq_f z1 (eq_f (nI_in (by omega) (by decide)) ?_)
          rw [z2]
          exact (x79 M rfl).trans r1
      · refine eq_f o13 (eq_f (by rw [y5]; exact nI_ge hcn (by omega)) (eq_f (nI_in (by omega) (by decide)) (eq_b (z := N1) ?_ (eq_f (nI_in (by omega) (by decide)) (eq_b (z := N2) ?_ (eq_f (nI_in (by omega) (by decide)) (eq_b (z := N3) ?_ ?_)))))))
        · rw [cc, hy.2.2.2.2 29 (by decide), py.1]; exact a1
        · rw [cc, (hy.tr a3).2.2.2.2 30 (by decide), py.2]; exact b1
        · rw [cc, (hy.tr (a3.tr b3)).2.2.2.2 30 (by decide), py.2]; exact c1
        · rw [k1]; exact r2
abbrev xiD (n0 : Nat) : Nat → Int32 → Int32 → Mem → Option (Int32 × Mem) := loopN (bX6_writeImage_119 n0 29) (fun _ _ _ => none)
abbrev yiD (n0 : Nat) : Nat → Int32 → Mem → Option (Int32 × Mem) := loopN (bX12_image_84 n0) (fun _ _ => none)
theorem imD {n0 q b m : Nat} {T : TP} {pm : Nat → Int32 × Nat} {s : Nat × List (Nat × Nat)} {MX MY : Mem} {x2 : Int32} (hT : XT n0 q T MX) (hY : YT n0 b T MY) (hS : SX q T.nc T.nd m pm s MX) (hL : LyD 0 T.nc m pm s MY) (hs : sOk T.nd s) : ∀ w d M N, d ≤ T.nd → T.nd < w + d → ImR (2 + 3 * T.nc + d) M N → XIm MX M → YIm MY N → ∃ M' N', xiD n0 w x2 (nI d) M = ((fX6_checkOf n0 29 (x2 - (1 : Int32)) M').bind fun z165 =>
    if oob (x2 - (1 : Int32)) (LX.ln 29) then none else
    bnd (sA z165.2 29 (Int32.toNatClampNeg (x2 - (1 : Int32))) z165.1) fun M168 =>
    some (x2, M168)) ∧ yiD n0 w (nI d) N = fX12_image_131 n0 227 0 N' ∧ ImR (2 + 3 * T.nc + T.nd) M' N' ∧ XIm MX M' ∧ YIm MY N'
  | 0, d, M, N, hd, hw, _, _, _ => by omega
  | w + 1, d, M, N, hd, hw, hI, hx, hy => by
    show ∃ M' N', bX6_writeImage_119 n0 29 (xiD n0 w) x2 (nI d) M = _ ∧ bX12_image_84 n0 (yiD n0 w) (nI d) N = _ ∧ _
    obtain ⟨o1, o2, o3, _⟩ := hT.2.1
    have hb := hY.2.2.1
    have q12 : gI M (128 * gR M 1280 + 12) = nI T.nd := by rw [hx.1, hS.2.1, hx.2.2.2.1]; exact hT.2.2.2.1
    have q5 : gI M (128 * gR M 1280 + 5) = nI T.nc := by rw [hx.1, hS.2.1, hx.2.2.2.1]; exact hT.2.2.1
    have i13 : gI N 13 = nI b := (hy.2.2.2.1 13 (by decide)).trans hY.2.2.2.1
    have o13 : ¬ oob (gI N 13) 2 := by rw [i13]; exact nI_in (by omega) (by decide)
    have y10 : gA N 10 (gI N 13).toNatClampNeg = nI T.nd := by rw [i13, nI_clamp (by omega), hy.2.2.2.2 10 (by decide)]; exact hY.2.2.2.2.2.2.1
    have s64 : s.1 < 64 := Nat.lt_of_lt_of_le hs.1 (p64 o3)
    unfold bX6_writeImage_119 bX12_image_84
    by_cases g : d = T.nd
    · subst g
      exact ⟨M, N, eq_t (by rw [q12]; exact Int32.le_refl _) rfl, eq_f o13 (eq_t (by rw [y10]; exact Int32.le_refl _) rfl), hI, hx, hy⟩
    · have hdn : d < T.nd := by omega
      have cd : (nI d).toNatClampNeg = d := nI_clamp (by omega)
      have b2 : s.1 / 2 ^ d % 2 < 2 := Nat.mod_lt _ (by decide)
      have d13 := hS.2.2.2.2.1 d hdn
      obtain ⟨N1, a1, a2, a3⟩ := imp (n0 := n0) (v := s.1 / 2 ^ d % 2) (x := nI (s.1 / 2 ^ d % 2)) hI (by omega) (by omega) (by rw [and255, Nat.mod_eq_of_lt (by omega)])
      obtain ⟨M', N', r1, r2, r3, r4, r5⟩ := imD (x2 := x2) hT hY hS hL hs w (d + 1) _ N1 (by omega) (by omega) (show ImR (2 + 3 * T.nc + (d + 1)) _ _ from a2) hx.a (hy.tr a3)
      have k1 : nI d + 1 = nI (d + 1) := nI_add d 1
      have ix : (2 : Int32) + 3 * gI M (128 * gR M 1280 + 5) + nI d = nI (2 + 3 * T.nc + d) := by rw [q5, n3, show (2 : Int32) = nI 2 from rfl, nI_add, nI_add]
      refine ⟨M', N', eq_f (by rw [q12]; exact nI_ge hdn (by omega)) (eq_f (nI_in (by omega) (by decide)) (eq_f ?_ (eq_e (v' := sA M 29 (2 + 3 * T.nc + d) (nI (s.1 / 2 ^ d % 2))) ?_ ?_))), eq_f o13 (eq_f (by rw [y10]; exact nI_ge hdn (by omega)) (eq_f (by decide) (eq_b (z := (bI (s.1 / 2 ^ d % 2 = 1), N)) ?_ ?_))), r3, r4, r5⟩
      · rw [ix, ln29]; exact nI_in (by omega) (by decide)
      · rw [ix, nI_clamp (by omega), cd, hx.2.2.2.2 13 (by decide), d13]
      · rw [k1]; exact r1
      · rw [show gA N 31 (Int32.toNatClampNeg 0) = nI s.1 by rw [hy.2.2.2.2 31 (by decide)]; exact hL.2.1]
        exact yhas2 s64 (by omega)
      · have st : ∀ u, u = nI (s.1 / 2 ^ d % 2) → fX12_image_116 n0 (yiD n0 w) (nI d) u N = fX12_image_131 n0 227 0 N' := fun u e => by
          unfold fX12_image_116
          rw [e, k1]
          exact eq_b a1 r2
        by_cases z : s.1 / 2 ^ d % 2 = 1
        · exact eq_f (show ¬ bI (s.1 / 2 ^ d % 2 = 1) = 0 by rw [bI_t z]; decide) (st 1 (by rw [z]; rfl))
        · exact eq_t (show bI (s.1 / 2 ^ d % 2 = 1) = 0 from bI_f z) (st 0 (by rw [show s.1 / 2 ^ d % 2 = 0 by omega]; rfl))
theorem yck {n0 n : Nat} {bv : Nat → Nat} {N : Mem} (hn : n ≤ 24) (h67 : gI N 67 = nI n) (hb : ∀ j, j < n → gA N 43 j = nI (bv j) ∧ bv j < 256) : ∀ w k, k ≤ n → n < w + k → loopN (bX12_image_131 n0) (fun _ _ _ => none) w (nI (ckN bv k)) (nI k) N = (fX12_writes n0 (nI (ckN bv n)) N).bind (fun z162 => some ((gI z162 67), z162))
  | 0, k, hk, hw => by omega
  | w + 1, k, hk, hw => by
    show bX12_image_131 n0 (loopN (bX12_image_131 n0) (fun _ _ _ => none) w) (nI (ckN bv k)) (nI k) N = _
    unfold bX12_image_131
    by_cases g : k = n
    · rw [g]
      exact eq_t (by rw [h67]; exact Int32.le_refl _) rfl
    · have ck : (nI k).toNatClampNeg = k := nI_clamp (by omega)
      refine eq_f (by rw [h67]; exact nI_ge (by omega) (by omega)) (eq_f (nI_in (by omega) (by decide)) (eq_f (by decide) (eq_e (v' := nI (ckN bv (k + 1))) ?_ ?_)))
      · rw [ck, (hb k (by omega)).1, ck1 (hb k (by omega)).2]
      · rw [show nI k + 1 = nI (k + 1) from nI_add k 1]
        exact yck (n0 := n0) hn h67 hb w (k + 1) (by omega) (by omega)
theorem cImage {n0 : Nat} {MX MY : Mem} (hn : 1700 ≤ n0) (h : R n0 MX MY) : Cal n0 (fX11_image n0 MX) (fX12_image n0 MY) := by
  obtain ⟨q, b, T, nr, C, m, pm, s, h⟩ := h
  obtain ⟨h1, h2, h3, h4, h5, h6, h7⟩ := id h
  obtain ⟨o1, o2, o3, _⟩ := h1.2.2.2.1.2.1
  have hm := h2.1
  have hx := h1.2.2.2.1
  have hy := h1.2.2.2.2.1
  -- the minute
  have I0 : ImR 0 MX (sI MY 67 0) := ⟨gI_at, fun k hk => by omega⟩
  obtain ⟨N1, a1, a2, a3⟩ := imp (n0 := n0) (v := m / 256) (x := nI m >>> ((8 : Int32) &&& 31)) I0 (by decide) (by omega) (by rw [shr8 (by omega), and255, Nat.mod_eq_of_lt (by omega)])
  obtain ⟨N2, b1, b2, b3⟩ := imp (n0 := n0) (v := m % 256) (x := nI m) a2 (by decide) (by omega) (and255 _)
  have y0 : YIm MY (sI MY 67 0) := ⟨rfl, rfl, rfl, fun k z => gI_ne z, fun _ _ => rfl⟩
  have y2 := y0.tr (a3.tr b3)
  obtain ⟨M3, N3, c1, c2, c3, c4, c5⟩ := imC (n0 := n0) (x2 := nI (2 + 3 * T.nc + T.nd + 1)) hx hy h3 h4 h2.2.1 n0 0 _ N2 (by omega) (by omega) b2 (XIm.r.a.a) y2
  obtain ⟨M4, N4, d1, d2, d3, d4, d5⟩ := imD (n0 := n0) (x2 := nI (2 + 3 * T.nc + T.nd + 1)) hx hy h3 h4 h2.2.2 n0 0 M3 N3 (by omega) (by omega) c3 c4 c5
  have bvx : ∀ j, j < 2 + 3 * T.nc + T.nd → gA M4 29 j = nI ((gA M4 29 j).toNatClampNeg) ∧ (gA M4 29 j).toNatClampNeg < 256 := fun j hj => by
    obtain ⟨v, v1, v2, _⟩ := d3.2 j hj
    rw [v2, nI_clamp (by omega)]
    exact ⟨rfl, v1⟩
  have bvy : ∀ j, j < 2 + 3 * T.nc + T.nd → gA N4 43 j = nI ((gA M4 29 j).toNatClampNeg) ∧ (gA M4 29 j).toNatClampNeg < 256 := fun j hj => by
    obtain ⟨v, v1, v2, v3⟩ := d3.2 j hj
    rw [v2, nI_clamp (by omega), v3]
    exact ⟨rfl, v1⟩
  have ckl := ckN_lt (fun j => (gA M4 29 j).toNatClampNeg) (2 + 3 * T.nc + T.nd)
  have e1 : fX6_checkOf n0 29 (nI (2 + 3 * T.nc + T.nd)) M4 = some (nI (ckN (fun j => (gA M4 29 j).toNatClampNeg) (2 + 3 * T.nc + T.nd)), M4) := xck (by rw [ln29]; omega) (by rw [ln29]; decide) bvx n0 0 (by omega) (by omega)
  have e2 := yck (n0 := n0) (n := 2 + 3 * T.nc + T.nd) (N := N4) (by omega) d3.1 bvy n0 0 (by omega) (by omega)
  obtain ⟨N5, f1, f2, f3⟩ := imp (n0 := n0) (v := ckN (fun j => (gA M4 29 j).toNatClampNeg) (2 + 3 * T.nc + T.nd)) (x := nI (ckN (fun j => (gA M4 29 j).toNatClampNeg) (2 + 3 * T.nc + T.nd))) d3 (by omega) (by omega) (by rw [and255, Nat.mod_eq_of_lt (by omega)])
  have sz : nI (2 + 3 * T.nc + T.nd + 1) - 1 = nI (2 + 3 * T.nc + T.nd) := nIs _
  have fx := d4.a (i := 2 + 3 * T.nc + T.nd) (v := nI (ckN (fun j => (gA M4 29 j).toNatClampNeg) (2 + 3 * T.nc + T.nd)))
  have fy := d5.tr f3
  refine ⟨nI (2 + 3 * T.nc + T.nd + 1), sI (sA M4 29 (2 + 3 * T.nc + T.nd) (nI (ckN (fun j => (gA M4 29 j).toNatClampNeg) (2 + 3 * T.nc + T.nd)))) 14 (nI (2 + 3 * T.nc + T.nd + 1)), N5, ?_, ?_, q, b, T, nr, C, m, pm, s, h.ou ⟨fx.1, fun k z => by rw [gI_ne (by omega), fx.2.2.2.1], fun a z => fx.2.2.2.2 a (by omega)⟩ ⟨fun k z => fy.2.2.2.1 k (by omega), fun a z => fy.2.2.2.2 a (by omega), fy.2.2.1⟩ ?_⟩
  · unfold fX11_image
    refine eq_b (z := (nI (2 + 3 * T.nc + T.nd + 1), sA M4 29 (2 + 3 * T.nc + T.nd) (nI (ckN (fun j => (gA M4 29 j).toNatClampNeg) (2 + 3 * T.nc + T.nd))))) ?_ (eq_n (by rw [gI_at]))
    unfold fX6_writeImage fX6_imageSize
    have q5 : gI MX (128 * gR MX 1280 + 5) = nI T.nc := by rw [h3.2.1]; exact hx.2.2.1
    have q12 : gI MX (128 * gR MX 1280 + 12) = nI T.nd := by rw [h3.2.1]; exact hx.2.2.2.1
    have ez : (2 : Int32) + 3 * gI MX (128 * gR MX 1280 + 5) + gI MX (128 * gR MX 1280 + 12) + 1 = nI (2 + 3 * T.nc + T.nd + 1) := by
      rw [q5, q12, n3, show (2 : Int32) = nI 2 from rfl, nI_add, nI_add]
      exact nI_add _ 1
    rw [ez, ln29]
    refine eq_b rfl (eq_t (nI_le (b := 24) (by omega) (by decide)) (eq_f (by decide) (eq_e (v' := sA MX 29 0 (nI (m / 256))) ?_ (eq_f (by decide) (eq_e (v' := sA (sA MX 29 0 (nI (m / 256))) 29 (0 + 1) (nI (m % 256))) ?_ ?_)))))
    · show sA MX 29 0 (gI MX 1281 >>> ((8 : Int32) &&& 31)) = _
      rw [h3.2.2.1, shr8 (by omega)]
    · show sA (sA MX 29 0 (nI (m / 256))) 29 1 (gI MX 1281 &&& 255) = _
      rw [h3.2.2.1, and255]
    · refine Eq.trans c1 (Eq.trans d1 ?_)
      rw [sz, ln29]
      refine eq_b e1 (eq_f (nI_in (by omega) (by decide)) (eq_e (v' := sA M4 29 (2 + 3 * T.nc + T.nd) (nI (ckN (fun j => (gA M4 29 j).toNatClampNeg) (2 + 3 * T.nc + T.nd)))) ?_ rfl))
      rw [nI_clamp (by omega)]
  · unfold fX12_image
    refine eq_n (eq_f (by decide) (eq_b (z := N1) ?_ (eq_f (by decide) (eq_b (z := N2) ?_ (Eq.trans c2 (Eq.trans d2 (Eq.trans e2 (eq_b f1 ?_))))))))
    · rw [show gA (sI MY 67 0) 28 (Int32.toNatClampNeg 0) = nI m from h4.1.1]; exact a1
    · rw [show gA N1 28 (Int32.toNatClampNeg 0) = nI m by rw [(y0.tr a3).2.2.2.2 28 (by decide)]; exact h4.1.1]; exact b1
    · rw [f2.1]
  · obtain ⟨p1, p2, p3, p4, p5, p6⟩ := h7
    refine ⟨p1.cg (by rw [gI_ne (by decide), fx.2.2.2.1]) (by rw [fy.2.1]), ⟨2 + 3 * T.nc + T.nd + 1, by omega, gI_at, f2.1, fun k hk => ?_⟩, p3.cg (fx.2.2.2.2 30 (by decide)) (fy.2.2.2.2 27 (by decide)), p4.cg (by rw [gI_ne (by decide), fx.2.2.2.1]) (by rw [gI_ne (by decide), fx.2.2.2.1]) (fy.2.2.2.1 10 (by decide)) (fy.2.2.2.1 11 (by decide)), p5.cg (by rw [gI_ne (by decide), fx.2.2.2.1]) (fy.2.2.2.1 1 (by decide)) (fx.2.2.2.2 6 (by decide)) (fy.2.2.2.2 1 (by decide)), p6.cg (fx.2.2.2.2 4 (by decide))⟩
    obtain ⟨v, _, v2, v3⟩ := f2.2 k hk
    exact v2.trans v3.symm
end
section
/-! ON: an image is read on both sides -/
theorem nOr (a b : Nat) : nI a ||| nI b = nI (a ||| b) := by
  apply Int32.toBitVec_inj.1
  show BitVec.ofNat 32 a ||| BitVec.ofNat 32 b = BitVec.ofNat 32 (a ||| b)
  exact BitVec.ofNat_or.symm
theorem pair8 {a c : Nat} (ha : a ≤ 255) (hc : c ≤ 255) : (nI a <<< ((8 : Int32) &&& 31)) ||| nI c = nI (256 * a + c) := by
  rw [pk_shlN _ 8 (by decide) (by omega), nOr, Nat.mul_comm]
  congr 1
  exact (Nat.two_pow_add_eq_or_of_lt (i := 8) (show c < 2 ^ 8 by omega) a).symm
theorem bt_on1 : ∀ d, d < 6 → ∀ D, D < 64 → D < 2 ^ d → ∀ v, v < 2 → (nI D ||| (nI v <<< (nI d &&& 31)) = nI (D + v * 2 ^ d)) := by decide +kernel
theorem bt_on2 : ∀ d, d < 6 → ∀ D, D < 64 → D < 2 ^ d → ∀ v, v < 2 → D + v * 2 ^ d < 2 ^ (d + 1) := by decide +kernel
theorem bt_on3 : ∀ d, d < 6 → ∀ D, D < 64 → D < 2 ^ d → ∀ v, v < 2 → (D + v * 2 ^ d) / 2 ^ d % 2 = v := by decide +kernel
theorem bt_on4 : ∀ d, d < 6 → ∀ D, D < 64 → ∀ v, v < 2 → ∀ e, e < d → (D + v * 2 ^ d) / 2 ^ e % 2 = D / 2 ^ e % 2 := by decide +kernel
def Dn (f : Nat → Nat) : Nat → Nat
  | 0 => 0
  | d + 1 => Dn f d + f d * 2 ^ d
theorem Dn_ok {f : Nat → Nat} {n : Nat} (hn : n ≤ 6) (hf : ∀ d, d < n → f d ≤ 1) : ∀ d, d ≤ n → Dn f d < 2 ^ d ∧ ∀ e, e < d → Dn f d / 2 ^ e % 2 = f e
  | 0, _ => ⟨Nat.zero_lt_one, fun e he => by omega⟩
  | d + 1, hd => by
    obtain ⟨a1, a2⟩ := Dn_ok hn hf d (by omega)
    have p := p64 (n := d) (by omega)
    have h1 := hf d (by omega)
    have b2 := bt_on2 d (by omega) (Dn f d) (by omega) a1 (f d) (by omega)
    have b3 := bt_on3 d (by omega) (Dn f d) (by omega) a1 (f d) (by omega)
    have b4 := bt_on4 d (by omega) (Dn f d) (by omega) (f d) (by omega)
    refine ⟨b2, fun e he => ?_⟩
    by_cases z : e = d
    · rw [z]; exact b3
    · exact (b4 e (by omega)).trans (a2 e (by omega))
/-- bytes of a tape -/
def Bv (t : Nat → Int32) (bv : Nat → Nat) (L : Nat) : Prop := ∀ i, i < L → t i = nI (bv i) ∧ bv i ≤ 255
theorem byt_bv {t : Nat → Int32} {L : Nat} (h : Byt t L) : Bv t (fun i => (t i).toNatClampNeg) L := fun i hi => by
  obtain ⟨v, v1, v2⟩ := byt_v h hi
  dsimp only
  rw [v2, nI_clamp (by omega)]
  exact ⟨rfl, v1⟩
theorem xatb {n0 L i : Nat} {bv : Nat → Nat} {M : Mem} (hL : gI M 641 = nI L) (h16 : L ≤ 1600) (hb : Bv (gA M 6) bv L) (hi : i < L) : fX7_at n0 (nI i) M = some (nI (bv i), M) := by rw [xat hL h16 hi, (hb i hi).1]
theorem xpair {n0 L i : Nat} {bv : Nat → Nat} {M : Mem} (hL : gI M 641 = nI L) (h16 : L ≤ 1600) (hb : Bv (gA M 6) bv L) (hi : i + 1 < L) : fX7_pairAt n0 (nI i) M = some (nI (256 * bv i + bv (i + 1)), M) := by
  unfold fX7_pairAt
  refine eq_b (xatb hL h16 hb (by omega)) (eq_b (z := (nI (bv (i + 1)), M)) ?_ ?_)
  · rw [show nI i + 1 = nI (i + 1) from nI_add i 1]
    exact xatb hL h16 hb hi
  · show some ((256 : Int32) * nI (bv i) + nI (bv (i + 1)), M) = _
    rw [show (256 : Int32) = nI 256 from rfl, nI_mul, nI_add]
def okC (bv : Nat → Nat) (nt c : Nat) : Prop := (bv (2 + 3 * c) = 255 ∨ bv (2 + 3 * c) < nt) ∧ 256 * bv (3 + 3 * c) + bv (4 + 3 * c) ≤ 999
abbrev xoC (n0 : Nat) : Nat → Int32 → Int32 → Mem → Option (Int32 × Mem) := loopN (bX6_isImage_28 n0) (fun _ _ _ => none)
theorem xon28 {n0 q L : Nat} {T : TP} {bv : Nat → Nat} {M : Mem} {x2 : Int32} (hT : XT n0 q T M) (hq : gR M 1280 = q) (hL : gI M 641 = nI L) (h16 : L ≤ 1600) (hb : Bv (gA M 6) bv L) (hs : L = 2 + 3 * T.nc + T.nd + 1) : ∀ w c, c ≤ T.nc → T.nc < w + c → (xoC n0 w x2 (nI c) M = fX6_isImage_107 n0 x2 0 M ∧ ∀ j, c ≤ j → j < T.nc → okC bv T.nt j) ∨ (xoC n0 w x2 (nI c) M = some (0, M) ∧ ¬ ∀ j, c ≤ j → j < T.nc → okC bv T.nt j)
  | 0, c, hc, hw => by omega
  | w + 1, c, hc, hw => by
    show (bX6_isImage_28 n0 (xoC n0 w) x2 (nI c) M = _ ∧ _) ∨ (bX6_isImage_28 n0 (xoC n0 w) x2 (nI c) M = _ ∧ _)
    obtain ⟨o1, o2, o3, _⟩ := hT.2.1
    have q5 : gI M (128 * gR M 1280 + 5) = nI T.nc := by rw [hq]; exact hT.2.2.1
    unfold bX6_isImage_28
    by_cases g : c = T.nc
    · exact Or.inl ⟨eq_t (by rw [q5, g]; exact Int32.le_refl _) rfl, fun j h1 h2 => by omega⟩
    · have hcn : c < T.nc := by omega
      have st : ¬ gI M (128 * gR M 1280 + 5) ≤ nI c := by rw [q5]; exact nI_ge hcn (by omega)
      have ix : (2 : Int32) + 3 * nI c = nI (2 + 3 * c) := by rw [n3, show (2 : Int32) = nI 2 from rfl, nI_add]
      have ix3 : (3 : Int32) + 3 * nI c = nI (3 + 3 * c) := by rw [n3, show (3 : Int32) = nI 3 from rfl, nI_add]
      have a1 := xatb (n0 := n0) hL h16 hb (i := 2 + 3 * c) (by omega)
      have a2 := xpair (n0 := n0) hL h16 hb (i := 3 + 3 * c) (by omega)
      have b0 := (hb (2 + 3 * c) (by omega)).2
      have b1 := (hb (3 + 3 * c) (by omega)).2
      have b2 := (hb (3 + 3 * c + 1) (by omega)).2
      have e4 : 3 + 3 * c + 1 = 4 + 3 * c := by omega
      rw [e4] at a2 b2
      have k1 : nI c + 1 = nI (c + 1) := nI_add c 1
      rw [ix]
      by_cases g1 : bv (2 + 3 * c) = 255 ∨ bv (2 + 3 * c) < T.nt
      · have go : ∀ r, fX6_isImage_70 n0 (xoC n0 w) x2 (nI c) M = r → (fX7_at n0 (nI (2 + 3 * c)) M).bind (fun z45 => if z45.1 = (255 : Int32) then fX6_isImage_70 n0 (xoC n0 w) x2 (nI c) z45.2 else (fX9_isThing n0 (gR z45.2 1280) z45.1 z45.2).bind fun z64 => if z64.1 = 0 then fX6_isImage_75 n0 (xoC n0 w) x2 (nI c) (0 : Int32) z64.2 else fX6_isImage_70 n0 (xoC n0 w) x2 (nI c) z64.2) = r := fun r hr => by
          refine eq_b a1 ?_
          by_cases g2 : bv (2 + 3 * c) = 255
          · exact eq_t (by rw [g2]; rfl) hr
          · refine eq_f (fun z => g2 ((nI_eq (b := 255) (by omega) (by decide)).mp z)) (eq_b (z := (1, M)) ?_ (eq_f (show ¬ (1 : Int32) = 0 by decide) hr))
            show fX9_isThing n0 (gR M 1280) (nI (bv (2 + 3 * c))) M = _
            rw [hq]
            exact xTht hT.1.2.2.1 o1 (g1.resolve_left g2)
        by_cases g3 : 256 * bv (3 + 3 * c) + bv (4 + 3 * c) ≤ 999
        · have sx : fX6_isImage_70 n0 (xoC n0 w) x2 (nI c) M = xoC n0 w x2 (nI (c + 1)) M := by
            unfold fX6_isImage_70 fX6_isImage_75
            rw [ix3, k1]
            exact eq_f (by decide) (eq_b a2 (eq_t (nI_le (b := 999) g3 (by decide)) rfl))
          rcases xon28 (x2 := x2) hT hq hL h16 hb hs w (c + 1) (by omega) (by omega) with ⟨r1, r2⟩ | ⟨r1, r2⟩
          · refine Or.inl ⟨eq_f st (go _ (sx.trans r1)), fun j h1 h2 => ?_⟩
            by_cases z : j = c
            · rw [z]; exact ⟨g1, g3⟩
            · exact r2 j (by omega) h2
          · exact Or.inr ⟨eq_f st (go _ (sx.trans r1)), fun z => r2 (fun j h1 h2 => z j (by omega) h2)⟩
        · refine Or.inr ⟨eq_f st (go _ ?_), fun z => g3 (z c (by omega) hcn).2⟩
          unfold fX6_isImage_70 fX6_isImage_75
          rw [ix3]
          exact eq_f (by decide) (eq_b a2 (eq_f (nI_ge (a := 999) (by omega) (by omega)) rfl))
      · refine Or.inr ⟨eq_f st (eq_b a1 (eq_f (fun z => g1 (Or.inl ((nI_eq (b := 255) (by omega) (by decide)).mp z))) (eq_b (z := (0, M)) ?_ (eq_t rfl ?_)))), fun z => g1 (z c (by omega) hcn).1⟩
        · show fX9_isThing n0 (gR M 1280) (nI (bv (2 + 3 * c))) M = _
          rw [hq]
          exact xThf hT.1.2.2.1 (Or.inr (nI_le (by omega) (by omega)))
        · unfold fX6_isImage_75
          exact eq_t rfl rfl
abbrev xoD (n0 : Nat) : Nat → Int32 → Int32 → Mem → Option (Int32 × Mem) := loopN (bX6_isImage_107 n0) (fun _ _ _ => none)
theorem xon107 {n0 q L : Nat} {T : TP} {bv : Nat → Nat} {M : Mem} (hn : 1700 ≤ n0) (hT : XT n0 q T M) (hq : gR M 1280 = q) (hL : gI M 641 = nI L) (h16 : L ≤ 1600) (hb : Bv (gA M 6) bv L) (hs : L = 2 + 3 * T.nc + T.nd + 1) : ∀ w d, d ≤ T.nd → T.nd < w + d → (xoD n0 w (nI L) (nI d) M = some (1, M) ∧ (∀ j, d ≤ j → j < T.nd → bv (2 + 3 * T.nc + j) ≤ 1) ∧ bv (L - 1) = ckN bv (L - 1)) ∨ (xoD n0 w (nI L) (nI d) M = some (0, M) ∧ ¬ ((∀ j, d ≤ j → j < T.nd → bv (2 + 3 * T.nc + j) ≤ 1) ∧ bv (L - 1) = ckN bv (L - 1)))
  | 0, d, hd, hw => by omega
  | w + 1, d, hd, hw => by
    show (bX6_isImage_107 n0 (xoD n0 w) (nI L) (nI d) M = _ ∧ _) ∨ (bX6_isImage_107 n0 (xoD n0 w) (nI L) (nI d) M = _ ∧ _)
    obtain ⟨o1, o2, o3, _⟩ := hT.2.1
    have q5 : gI M (128 * gR M 1280 + 5) = nI T.nc := by rw [hq]; exact hT.2.2.1
    have q12 : gI M (128 * gR M 1280 + 12) = nI T.nd := by rw [hq]; exact hT.2.2.2.1
    have l1 : nI L - 1 = nI (L - 1) := by
      rw [show L = (L - 1) + 1 by omega]
      exact nIs _
    have ln6 : LX.ln 6 = 1600 := rfl
    unfold bX6_isImage_107
    by_cases g : d = T.nd
    · have e1 : fX6_checkOf n0 6 (nI (L - 1)) M = some (nI (ckN bv (L - 1)), M) := xck (by rw [ln6]; omega) (by rw [ln6]; decide) (fun j hj => ⟨(hb j (by omega)).1, by have := (hb j (by omega)).2; omega⟩) n0 0 (by omega) (by omega)
      have a1 := xatb (n0 := n0) hL h16 hb (i := L - 1) (by omega)
      have b1 := (hb (L - 1) (by omega)).2
      have c1 := ckN_lt bv (L - 1)
      rw [l1]
      by_cases z : bv (L - 1) = ckN bv (L - 1)
      · exact Or.inl ⟨eq_t (by rw [q12, g]; exact Int32.le_refl _) (eq_b a1 (eq_b e1 (eq_t (congrArg nI z) rfl))), fun j h1 h2 => by omega, z⟩
      · exact Or.inr ⟨eq_t (by rw [q12, g]; exact Int32.le_refl _) (eq_b a1 (eq_b e1 (eq_f (fun y => z ((nI_eq (by omega) (by omega)).mp y)) rfl))), fun y => z y.2⟩
    · have hdn : d < T.nd := by omega
      have st : ¬ gI M (128 * gR M 1280 + 12) ≤ nI d := by rw [q12]; exact nI_ge hdn (by omega)
      have ix : (2 : Int32) + 3 * gI M (128 * gR M 1280 + 5) + nI d = nI (2 + 3 * T.nc + d) := by rw [q5, n3, show (2 : Int32) = nI 2 from rfl, nI_add, nI_add]
      have a1 := xatb (n0 := n0) hL h16 hb (i := 2 + 3 * T.nc + d) (by omega)
      have b1 := (hb (2 + 3 * T.nc + d) (by omega)).2
      rw [ix]
      by_cases z : bv (2 + 3 * T.nc + d) ≤ 1
      · rcases xon107 hn hT hq hL h16 hb hs w (d + 1) (by omega) (by omega) with ⟨r1, r2, r3⟩ | ⟨r1, r2⟩
        · refine Or.inl ⟨eq_f st (eq_b a1 (eq_t (nI_le (b := 1) z (by decide)) ?_)), fun j h1 h2 => ?_, r3⟩
          · rw [show nI d + 1 = nI (d + 1) from nI_add d 1]; exact r1
          · by_cases y : j = d
            · rw [y]; exact z
            · exact r2 j (by omega) h2
        · refine Or.inr ⟨eq_f st (eq_b a1 (eq_t (nI_le (b := 1) z (by decide)) ?_)), fun y => r2 ⟨fun j h1 h2 => y.1 j (by omega) h2, y.2⟩⟩
          rw [show nI d + 1 = nI (d + 1) from nI_add d 1]; exact r1
      · exact Or.inr ⟨eq_f st (eq_b a1 (eq_f (nI_ge (a := 1) (by omega) (by omega)) rfl)), fun y => z (y.1 d (by omega) hdn)⟩
/-- an image of this town -/
def isIm (T : TP) (bv : Nat → Nat) (L : Nat) : Prop := L = 2 + 3 * T.nc + T.nd + 1 ∧ 256 * bv 0 + bv 1 ≤ 9999 ∧ (∀ j, j < T.nc → okC bv T.nt j) ∧ (∀ j, j < T.nd → bv (2 + 3 * T.nc + j) ≤ 1) ∧ bv (L - 1) = ckN bv (L - 1)
theorem xisIm {n0 q L : Nat} {T : TP} {bv : Nat → Nat} {M : Mem} (hn : 1700 ≤ n0) (hT : XT n0 q T M) (hq : gR M 1280 = q) (hL : gI M 641 = nI L) (h16 : L ≤ 1600) (hb : Bv (gA M 6) bv L) : (fX6_isImage n0 M = some (1, M) ∧ isIm T bv L) ∨ (fX6_isImage n0 M = some (0, M) ∧ ¬ isIm T bv L) := by
  obtain ⟨o1, o2, o3, _⟩ := hT.2.1
  have q5 : gI M (128 * gR M 1280 + 5) = nI T.nc := by rw [hq]; exact hT.2.2.1
  have q12 : gI M (128 * gR M 1280 + 12) = nI T.nd := by rw [hq]; exact hT.2.2.2.1
  have ez : (2 : Int32) + 3 * gI M (128 * gR M 1280 + 5) + gI M (128 * gR M 1280 + 12) + 1 = nI (2 + 3 * T.nc + T.nd + 1) := by
    rw [q5, q12, n3, show (2 : Int32) = nI 2 from rfl, nI_add, nI_add]
    exact nI_add _ 1
  unfold fX6_isImage fX6_imageSize
  rw [ez]
  by_cases g1 : L = 2 + 3 * T.nc + T.nd + 1
  · have a0 : fX7_pairAt n0 (nI 0) M = some (nI (256 * bv 0 + bv 1), M) := xpair (n0 := n0) hL h16 hb (i := 0) (by omega)
    have b0 := (hb 0 (by omega)).2
    have b1 := (hb 1 (by omega)).2
    have h1 : gI M 641 = nI (2 + 3 * T.nc + T.nd + 1) := by rw [hL, g1]
    by_cases g2 : 256 * bv 0 + bv 1 ≤ 9999
    · rw [← g1] at h1 ⊢
      rcases xon28 (n0 := n0) (x2 := nI L) hT hq hL h16 hb g1 n0 0 (by omega) (by omega) with ⟨r1, r2⟩ | ⟨r1, r2⟩
      · rcases xon107 hn hT hq hL h16 hb g1 n0 0 (by omega) (by omega) with ⟨s1, s2, s3⟩ | ⟨s1, s2⟩
        · exact Or.inl ⟨eq_b rfl (eq_t h1 (eq_b a0 (eq_t (nI_le (b := 9999) g2 (by decide)) (r1.trans s1)))), g1, g2, fun j hj => r2 j (by omega) hj, fun j hj => s2 j (by omega) hj, s3⟩
        · exact Or.inr ⟨eq_b rfl (eq_t h1 (eq_b a0 (eq_t (nI_le (b := 9999) g2 (by decide)) (r1.trans s1)))), fun y => s2 ⟨fun j _ hj => y.2.2.2.1 j hj, y.2.2.2.2⟩⟩
      · exact Or.inr ⟨eq_b rfl (eq_t h1 (eq_b a0 (eq_t (nI_le (b := 9999) g2 (by decide)) r1))), fun y => r2 (fun j _ hj => y.2.2.1 j hj)⟩
    · exact Or.inr ⟨eq_b rfl (eq_t h1 (eq_b a0 (eq_f (nI_ge (a := 9999) (by omega) (by omega)) rfl))), fun y => g2 y.2.1⟩
  · exact Or.inr ⟨eq_b rfl (eq_f (by rw [hL]; exact fun z => g1 ((nI_eq (by omega) (by omega)).mp z)) rfl), fun y => g1 y.1⟩
/-- what an image tells of a palm -/
def pIm (bv : Nat → Nat) : Nat → Int32 × Nat := fun c => (if bv (2 + 3 * c) = 255 then -1 else nI (bv (2 + 3 * c)), 256 * bv (3 + 3 * c) + bv (4 + 3 * c))
abbrev xrC (n0 : Nat) : Nat → Int32 → Mem → Option Mem := loopN (bX6_readImage_16 n0) (fun _ _ => none)
abbrev xrD (n0 : Nat) : Nat → Int32 → Mem → Option Mem := loopN (bX6_readImage_78 n0) (fun _ _ => none)
theorem xrd78 {n0 nc nd L : Nat} {bv : Nat → Nat} (h5 : nc ≤ 5) (h6 : nd ≤ 6) (h16 : L ≤ 1600) (hs : L = 2 + 3 * nc + nd + 1) : ∀ w d M, d ≤ nd → nd < w + d → gI M (128 * gR M 1280 + 5) = nI nc → gI M (128 * gR M 1280 + 12) = nI nd → gI M 641 = nI L → Bv (gA M 6) bv L → ∃ M', xrD n0 w (nI d) M = some M' ∧ (∀ e, d ≤ e → e < nd → gA M' 13 e = nI (bv (2 + 3 * nc + e))) ∧ gR M' = gR M ∧ gL M' = gL M ∧ gB M' = gB M ∧ gI M' = gI M ∧ ∀ a i, ¬ (a = 13 ∧ d ≤ i) → gA M' a i = gA M a i
  | 0, d, M, hd, hw, _, _, _, _ => by omega
  | w + 1, d, M, hd, hw, q5, q12, hL, hb => by
    show ∃ M', bX6_readImage_78 n0 (xrD n0 w) (nI d) M = _ ∧ _
    unfold bX6_readImage_78
    by_cases g : d = nd
    · exact ⟨M, eq_t (by rw [q12, g]; exact Int32.le_refl _) rfl, fun e h1 h2 => by omega, rfl, rfl, rfl, rfl, fun _ _ _ => rfl⟩
    · have cd : (nI d).toNatClampNeg = d := nI_clamp (by omega)
      have ix : (2 : Int32) + 3 * gI M (128 * gR M 1280 + 5) + nI d = nI (2 + 3 * nc + d) := by rw [q5, n3, show (2 : Int32) = nI 2 from rfl, nI_add, nI_add]
      obtain ⟨M', r1, r2, r3, r4, r5, r6, r7⟩ := xrd78 (n0 := n0) h5 h6 h16 hs w (d + 1) (sA M 13 d (nI (bv (2 + 3 * nc + d)))) (by omega) (by omega) q5 q12 hL (by rw [gA_sA_ne (by decide)]; exact hb)
      refine ⟨M', eq_f (by rw [q12]; exact nI_ge (by omega) (by omega)) (eq_b (z := (nI (bv (2 + 3 * nc + d)), M)) (by rw [ix]; exact xatb hL h16 hb (by omega)) (eq_f (nI_in (by omega) (by decide)) (eq_e (v' := sA M 13 d (nI (bv (2 + 3 * nc + d)))) (by rw [cd]) ?_))), fun e h1 h2 => ?_, r3, r4, r5, r6, fun a i z => ?_⟩
      · rw [show nI d + 1 = nI (d + 1) from nI_add d 1]
        exact r1
      · by_cases h : e = d
        · rw [h, r7 13 d (by omega), gA_sA, if_pos rfl, if_pos rfl]
        · exact r2 e (by omega) h2
      · rw [r7 a i (by omega), gA_sA]
        by_cases h : a = 13
        · rw [if_pos h, if_neg (by omega), h]
        · rw [if_neg h]
theorem xrd16 {n0 nc nd L : Nat} {bv : Nat → Nat} (hn : 1700 ≤ n0) (h5 : nc ≤ 5) (h6 : nd ≤ 6) (h16 : L ≤ 1600) (hs : L = 2 + 3 * nc + nd + 1) : ∀ w c M, c ≤ nc → nc < w + c → gI M (128 * gR M 1280 + 5) = nI nc → gI M (128 * gR M 1280 + 12) = nI nd → gI M 641 = nI L → Bv (gA M 6) bv L → ∃ M', xrC n0 w (nI c) M = some M' ∧ (∀ j, c ≤ j → j < nc → gA M' 11 j = (pIm bv j).1 ∧ gA M' 12 j = nI (pIm bv j).2) ∧ (∀ e, e < nd → gA M' 13 e = nI (bv (2 + 3 * nc + e))) ∧ gR M' = gR M ∧ gL M' = gL M ∧ gB M' = gB M ∧ gI M' = gI M ∧ ∀ a i, ¬ (a = 13 ∨ ((a = 11 ∨ a = 12) ∧ c ≤ i)) → gA M' a i = gA M a i
  | 0, c, M, hc, hw, _, _, _, _ => by omega
  | w + 1, c, M, hc, hw, q5, q12, hL, hb => by
    show ∃ M', bX6_readImage_16 n0 (xrC n0 w) (nI c) M = _ ∧ _
    unfold bX6_readImage_16
    by_cases g : c = nc
    · obtain ⟨M', r1, r2, r3, r4, r5, r6, r7⟩ := xrd78 (n0 := n0) h5 h6 h16 hs n0 0 M (by omega) (by omega) q5 q12 hL hb
      exact ⟨M', eq_t (by rw [q5, g]; exact Int32.le_refl _) r1, fun j h1 h2 => by omega, fun e he => r2 e (by omega) he, r3, r4, r5, r6, fun a i z => r7 a i (by omega)⟩
    · have cc : (nI c).toNatClampNeg = c := nI_clamp (by omega)
      have oc : ¬ oob (nI c) 5 := nI_in (by omega) (by decide)
      have ix : (2 : Int32) + 3 * nI c = nI (2 + 3 * c) := by rw [n3, show (2 : Int32) = nI 2 from rfl, nI_add]
      have ix3 : (3 : Int32) + 3 * nI c = nI (3 + 3 * c) := by rw [n3, show (3 : Int32) = nI 3 from rfl, nI_add]
      have b0 := (hb (2 + 3 * c) (by omega)).2
      obtain ⟨M', r1, r2, r3, r4, r5, r6, r7, r8⟩ := xrd16 hn h5 h6 h16 hs w (c + 1) (sA (sA M 11 c (pIm bv c).1) 12 c (nI (pIm bv c).2)) (by omega) (by omega) q5 q12 hL (by rw [gA_sA_ne (by decide), gA_sA_ne (by decide)]; exact hb)
      have x54 : ∀ u, u = (pIm bv c).1 → fX6_readImage_54 n0 (xrC n0 w) (nI c) (nI c) u M = some M' := fun u e => by
        unfold fX6_readImage_54
        rw [ix3, e]
        refine eq_f oc (eq_e (v' := sA M 11 c (pIm bv c).1) (by rw [cc]) (eq_b (z := (nI (pIm bv c).2, sA M 11 c (pIm bv c).1)) ?_ (eq_f oc (eq_e (v' := sA (sA M 11 c (pIm bv c).1) 12 c (nI (pIm bv c).2)) (by rw [cc]) ?_))))
        · have := xpair (n0 := n0) (M := sA M 11 c (pIm bv c).1) (L := L) (bv := bv) hL h16 (by rw [gA_sA_ne (by decide)]; exact hb) (i := 3 + 3 * c) (by omega)
          rw [show 3 + 3 * c + 1 = 4 + 3 * c by omega] at this
          exact this
        · rw [show nI c + 1 = nI (c + 1) from nI_add c 1]
          exact r1
      refine ⟨M', eq_f (by rw [q5]; exact nI_ge (by omega) (by omega)) (eq_b (z := (nI (bv (2 + 3 * c)), M)) (by rw [ix]; exact xatb hL h16 hb (by omega)) ?_), fun j h1 h2 => ?_, r3, r4, r5, r6, r7, fun a i z => ?_⟩
      · by_cases z : bv (2 + 3 * c) = 255
        · exact eq_t (by rw [z]; rfl) (x54 _ (by unfold pIm; rw [if_pos z]))
        · exact eq_f (fun y => z ((nI_eq (b := 255) (by omega) (by decide)).mp y)) (x54 _ (by unfold pIm; rw [if_neg z]))
      · by_cases h : j = c
        · rw [h, r8 11 c (by omega), r8 12 c (by omega), gA_sA_ne (by decide), gA_sA, if_pos rfl, if_pos rfl, gA_sA, if_pos rfl, if_pos rfl]
          exact ⟨rfl, rfl⟩
        · exact r2 j (by omega) h2
      · rw [r8 a i (by omega), gA_sA]
        by_cases h : a = 12
        · rw [if_pos h, if_neg (by omega), gA_sA_ne (by decide), h]
        · rw [if_neg h, gA_sA]
          by_cases h' : a = 11
          · rw [if_pos h', if_neg (by omega), h']
          · rw [if_neg h']
end
section
/-! ON: the reference, and the call -/
theorem ycor {n0 b c L : Nat} {T : TP} {bv : Nat → Nat} {N : Mem} (hY : YT n0 b T N) (h16 : L ≤ 1600) (hb : Bv (gA N 1) bv L) (hs : L = 2 + 3 * T.nc + T.nd + 1) (hc : c < T.nc) : ((fX12_cornerOn n0 (nI c) (nI (2 + 3 * c)) N = some (1, sA (sA N 29 (5 + c) (pIm bv c).1) 30 (5 + c) (nI (pIm bv c).2)) ∧ okC bv T.nt c) ∨ (fX12_cornerOn n0 (nI c) (nI (2 + 3 * c)) N = some (0, sA (sA N 29 (5 + c) (pIm bv c).1) 30 (5 + c) (nI (pIm bv c).2)) ∧ ¬ okC bv T.nt c)) := by
  obtain ⟨o1, o2, o3, _⟩ := hY.2.1
  have c5 : (5 : Int32) + nI c = nI (5 + c) := by rw [show (5 : Int32) = nI 5 from rfl, nI_add]
  have cc : (nI (5 + c)).toNatClampNeg = 5 + c := nI_clamp (by omega)
  have oc : ¬ oob (nI (5 + c)) 110 := nI_in (by omega) (by decide)
  have ci : (nI (2 + 3 * c)).toNatClampNeg = 2 + 3 * c := nI_clamp (by omega)
  have i1 : nI (2 + 3 * c) + 1 = nI (3 + 3 * c) := by rw [show nI (2 + 3 * c) + 1 = nI (2 + 3 * c + 1) from nI_add _ 1]; congr 1; omega
  have i2 : nI (2 + 3 * c) + 2 = nI (4 + 3 * c) := by rw [show nI (2 + 3 * c) + 2 = nI (2 + 3 * c + 2) from nI_add _ 2]; congr 1; omega
  have ci1 : (nI (3 + 3 * c)).toNatClampNeg = 3 + 3 * c := nI_clamp (by omega)
  have ci2 : (nI (4 + 3 * c)).toNatClampNeg = 4 + 3 * c := nI_clamp (by omega)
  obtain ⟨e0, b0⟩ := hb (2 + 3 * c) (by omega)
  obtain ⟨e1, b1⟩ := hb (3 + 3 * c) (by omega)
  obtain ⟨e2, b2⟩ := hb (4 + 3 * c) (by omega)
  have hh : (pIm bv c).2 = 256 * bv (3 + 3 * c) + bv (4 + 3 * c) := rfl
  have hN2 : ∃ N2, N2 = sA (sA N 29 (5 + c) (pIm bv c).1) 30 (5 + c) (nI (pIm bv c).2) := ⟨_, rfl⟩
  obtain ⟨N2, eN⟩ := hN2
  rw [← eN]
  have a30 : gA N2 30 (5 + c) = nI (pIm bv c).2 := by rw [eN, gA_sA, if_pos rfl, if_pos rfl]
  have i13 : gI N2 13 = nI b := by rw [eN]; exact hY.2.2.2.1
  have a2 : gA N2 2 b = nI T.nt := by rw [eN, gA_sA_ne (by decide), gA_sA_ne (by decide)]; exact hY.2.2.2.2.1
  have x73 : ((pIm bv c).2 ≤ 999 ∧ fX12_cornerOn_73 n0 (nI c) N2 = some (1, N2)) ∨ (¬ (pIm bv c).2 ≤ 999 ∧ fX12_cornerOn_73 n0 (nI c) N2 = some (0, N2)) := by
    unfold fX12_cornerOn_73
    simp only [c5, cc, a30]
    by_cases z : (pIm bv c).2 ≤ 999
    · exact Or.inl ⟨z, eq_f oc (eq_f (fun y => by have := (nI_ltI (a := 999) (by decide) (by omega)).mp y; omega) rfl)⟩
    · exact Or.inr ⟨z, eq_f oc (eq_t (nI_lt (a := 999) (by omega) (by omega)) rfl)⟩
  have x22 : ∀ r, (if (pIm bv c).1 = (-1 : Int32) then fX12_cornerOn_73 n0 (nI c) N2 else (fX12_isThing n0 (pIm bv c).1 N2).bind fun z67 => if z67.1 = 0 then some ((0 : Int32), z67.2) else fX12_cornerOn_73 n0 (nI c) z67.2) = r → fX12_cornerOn_22 n0 (nI c) (nI (2 + 3 * c)) (pIm bv c).1 N = r := fun r hr => by
    unfold fX12_cornerOn_22
    simp only [c5, cc, i1, i2, ci1, ci2]
    refine eq_f oc (eq_n (eq_f (nI_in (by omega) (by decide)) (eq_f (nI_in (by omega) (by decide)) (eq_f oc (eq_e (v' := N2) ?_ hr)))))
    rw [gA_sA_ne (by decide), e1, e2, pair8 b1 b2, eN, hh]
  have x0 : ∀ r, fX12_cornerOn_22 n0 (nI c) (nI (2 + 3 * c)) (pIm bv c).1 N = r → fX12_cornerOn n0 (nI c) (nI (2 + 3 * c)) N = r := fun r hr => by
    unfold fX12_cornerOn
    simp only [ci, e0]
    by_cases z : bv (2 + 3 * c) = 255
    · have : (pIm bv c).1 = -1 := by unfold pIm; exact if_pos z
      rw [this] at hr
      exact eq_f (nI_in (by omega) (by decide)) (eq_t (by rw [z]; rfl) hr)
    · have : (pIm bv c).1 = nI (bv (2 + 3 * c)) := by unfold pIm; exact if_neg z
      rw [this] at hr
      exact eq_f (nI_in (by omega) (by decide)) (eq_f (fun y => z ((nI_eq (b := 255) (by omega) (by decide)).mp y)) (eq_f (nI_in (by omega) (by decide)) hr))
  by_cases z : bv (2 + 3 * c) = 255
  · have p1 : (pIm bv c).1 = -1 := by unfold pIm; exact if_pos z
    rcases x73 with ⟨y, e⟩ | ⟨y, e⟩
    · exact Or.inl ⟨x0 _ (x22 _ (eq_t p1 e)), Or.inl z, y⟩
    · exact Or.inr ⟨x0 _ (x22 _ (eq_t p1 e)), fun w => y w.2⟩
  · have p1 : (pIm bv c).1 = nI (bv (2 + 3 * c)) := by unfold pIm; exact if_neg z
    have p2 : ¬ (pIm bv c).1 = -1 := by rw [p1]; exact nI_m1 (by omega)
    by_cases y : bv (2 + 3 * c) < T.nt
    · have e3 : fX12_isThing n0 (pIm bv c).1 N2 = some (1, N2) := by rw [p1]; exact yTht i13 hY.2.2.1 a2 o1 y
      rcases x73 with ⟨w, e⟩ | ⟨w, e⟩
      · exact Or.inl ⟨x0 _ (x22 _ (eq_f p2 (eq_b e3 (eq_f (show ¬ (1 : Int32) = 0 by decide) e)))), Or.inr y, w⟩
      · exact Or.inr ⟨x0 _ (x22 _ (eq_f p2 (eq_b e3 (eq_f (show ¬ (1 : Int32) = 0 by decide) e)))), fun k => w k.2⟩
    · have e3 : fX12_isThing n0 (pIm bv c).1 N2 = some (0, N2) := by rw [p1]; exact yThf i13 hY.2.2.1 a2 (Or.inr (nI_le (by omega) (by omega)))
      exact Or.inr ⟨x0 _ (x22 _ (eq_f p2 (eq_b e3 (eq_t rfl rfl)))), fun k => k.1.elim z y⟩
abbrev yoC (n0 : Nat) : Nat → Int32 → Int32 → Mem → Option (Int32 × Mem) := loopN (bX12_comesOn_151 n0) (fun _ _ _ => none)
theorem yon151 {n0 b L : Nat} {T : TP} {bv : Nat → Nat} {x2 : Int32} (h16 : L ≤ 1600) (hs : L = 2 + 3 * T.nc + T.nd + 1) : ∀ w c N, c ≤ T.nc → T.nc < w + c → YT n0 b T N → Bv (gA N 1) bv L → ∃ N', YF (tP 1) N N' ∧ gA N' 28 = gA N 28 ∧ (∀ j, j < c → gA N' 29 (5 + j) = gA N 29 (5 + j) ∧ gA N' 30 (5 + j) = gA N 30 (5 + j)) ∧ ((yoC n0 w x2 (nI c) N = fX12_comesOn_191 n0 x2 0 N' ∧ (∀ j, c ≤ j → j < T.nc → okC bv T.nt j ∧ gA N' 29 (5 + j) = (pIm bv j).1 ∧ gA N' 30 (5 + j) = nI (pIm bv j).2)) ∨ (yoC n0 w x2 (nI c) N = some (0, N') ∧ ¬ ∀ j, c ≤ j → j < T.nc → okC bv T.nt j))
  | 0, c, N, hc, hw, _, _ => by omega
  | w + 1, c, N, hc, hw, hY, hb => by
    show ∃ N', YF (tP 1) N N' ∧ gA N' 28 = gA N 28 ∧ _ ∧ ((bX12_comesOn_151 n0 (yoC n0 w) x2 (nI c) N = _ ∧ _) ∨ (bX12_comesOn_151 n0 (yoC n0 w) x2 (nI c) N = _ ∧ _))
    obtain ⟨o1, o2, o3, _⟩ := hY.2.1
    have hbb := hY.2.2.1
    have o13 : ¬ oob (gI N 13) 2 := by rw [hY.2.2.2.1]; exact nI_in (by omega) (by decide)
    have y5 : gA N 5 (gI N 13).toNatClampNeg = nI T.nc := by rw [hY.2.2.2.1, nI_clamp (by omega)]; exact hY.2.2.2.2.2.1
    unfold bX12_comesOn_151
    by_cases g : c = T.nc
    · exact ⟨N, YF.r, rfl, fun _ _ => ⟨rfl, rfl⟩, Or.inl ⟨eq_f o13 (eq_t (by rw [y5, g]; exact Int32.le_refl _) rfl), fun j h1 h2 => by omega⟩⟩
    · have hcn : c < T.nc := by omega
      have ix : (2 : Int32) + 3 * nI c = nI (2 + 3 * c) := by rw [n3, show (2 : Int32) = nI 2 from rfl, nI_add]
      have st : ¬ gA N 5 (gI N 13).toNatClampNeg ≤ nI c := by rw [y5]; exact nI_ge hcn (by omega)
      have hN2 : ∃ N2, N2 = sA (sA N 29 (5 + c) (pIm bv c).1) 30 (5 + c) (nI (pIm bv c).2) := ⟨_, rfl⟩
      obtain ⟨N2, eN⟩ := hN2
      have f1 : YF (tP 1) N N2 := by rw [eN]; exact (YF.r.a (by unfold tP; omega)).a (by unfold tP; omega)
      have a28 : gA N2 28 = gA N 28 := by rw [eN, gA_sA_ne (by decide), gA_sA_ne (by decide)]
      have a29 : ∀ j, ¬ j = c → gA N2 29 (5 + j) = gA N 29 (5 + j) ∧ gA N2 30 (5 + j) = gA N 30 (5 + j) := fun j z => by
        rw [eN]
        exact ⟨by rw [gA_sA_ne (by decide), gA_sA, if_pos rfl, if_neg (by omega)], by rw [gA_sA, if_pos rfl, if_neg (by omega), gA_sA_ne (by decide)]⟩
      have b29 : gA N2 29 (5 + c) = (pIm bv c).1 ∧ gA N2 30 (5 + c) = nI (pIm bv c).2 := by
        rw [eN]
        exact ⟨by rw [gA_sA_ne (by decide), gA_sA, if_pos rfl, if_pos rfl], by rw [gA_sA, if_pos rfl, if_pos rfl]⟩
      rw [ix]
      have hcr := ycor (n0 := n0) hY h16 hb hs hcn
      rw [← eN] at hcr
      rcases hcr with ⟨e, k⟩ | ⟨e, k⟩
      · obtain ⟨N', r0, r1, r2, r3⟩ := yon151 (n0 := n0) (b := b) (x2 := x2) h16 hs w (c + 1) N2 (by omega) (by omega) (hY.yf f1 tP28) (by rw [eN, gA_sA_ne (by decide), gA_sA_ne (by decide)]; exact hb)
        refine ⟨N', f1.tr r0, r1.trans a28, fun j hj => ⟨((r2 j (by omega)).1).trans (a29 j (by omega)).1, ((r2 j (by omega)).2).trans (a29 j (by omega)).2⟩, ?_⟩
        have k1 : nI c + 1 = nI (c + 1) := nI_add c 1
        rcases r3 with ⟨s1, s2⟩ | ⟨s1, s2⟩
        · refine Or.inl ⟨eq_f o13 (eq_f st (eq_b e (eq_f (show ¬ (1 : Int32) = 0 by decide) (by rw [k1]; exact s1)))), fun j h1 h2 => ?_⟩
          by_cases z : j = c
          · rw [z]
            exact ⟨k, ((r2 c (by omega)).1).trans b29.1, ((r2 c (by omega)).2).trans b29.2⟩
          · exact s2 j (by omega) h2
        · exact Or.inr ⟨eq_f o13 (eq_f st (eq_b e (eq_f (show ¬ (1 : Int32) = 0 by decide) (by rw [k1]; exact s1)))), fun z => s2 (fun j h1 h2 => z j (by omega) h2)⟩
      · exact ⟨N2, f1, a28, fun j hj => a29 j (by omega), Or.inr ⟨eq_f o13 (eq_f st (eq_b e (eq_t rfl rfl))), fun z => k (z c (by omega) hcn)⟩⟩
abbrev yoD (n0 : Nat) : Nat → Int32 → Int32 → Mem → Option (Int32 × Mem) := loopN (bX12_comesOn_191 n0) (fun _ _ _ => none)
theorem yon191 {n0 b L : Nat} {T : TP} {bv : Nat → Nat} (h16 : L ≤ 1600) (hs : L = 2 + 3 * T.nc + T.nd + 1) : ∀ w d N, d ≤ T.nd → T.nd < w + d → YT n0 b T N → Bv (gA N 1) bv L → (∀ j, j < d → bv (2 + 3 * T.nc + j) ≤ 1) → gA N 31 1 = nI (Dn (fun j => bv (2 + 3 * T.nc + j)) d) → ∃ N', YF (fun a i => a = 31 ∧ i = 1) N N' ∧ ((yoD n0 w (nI (2 + 3 * T.nc)) (nI d) N = some (1, N') ∧ (∀ j, j < T.nd → bv (2 + 3 * T.nc + j) ≤ 1) ∧ gA N' 31 1 = nI (Dn (fun j => bv (2 + 3 * T.nc + j)) T.nd)) ∨ (yoD n0 w (nI (2 + 3 * T.nc)) (nI d) N = some (0, N') ∧ ¬ ∀ j, j < T.nd → bv (2 + 3 * T.nc + j) ≤ 1))
  | 0, d, N, hd, hw, _, _, _, _ => by omega
  | w + 1, d, N, hd, hw, hY, hb, hv, hD => by
    show ∃ N', YF (fun a i => a = 31 ∧ i = 1) N N' ∧ ((bX12_comesOn_191 n0 (yoD n0 w) (nI (2 + 3 * T.nc)) (nI d) N = _ ∧ _) ∨ (bX12_comesOn_191 n0 (yoD n0 w) (nI (2 + 3 * T.nc)) (nI d) N = _ ∧ _))
    obtain ⟨o1, o2, o3, _⟩ := hY.2.1
    have hbb := hY.2.2.1
    have o13 : ¬ oob (gI N 13) 2 := by rw [hY.2.2.2.1]; exact nI_in (by omega) (by decide)
    have y10 : gA N 10 (gI N 13).toNatClampNeg = nI T.nd := by rw [hY.2.2.2.1, nI_clamp (by omega)]; exact hY.2.2.2.2.2.2.1
    unfold bX12_comesOn_191
    by_cases g : d = T.nd
    · subst g
      exact ⟨N, YF.r, Or.inl ⟨eq_f o13 (eq_t (by rw [y10]; exact Int32.le_refl _) rfl), hv, hD⟩⟩
    · have hdn : d < T.nd := by omega
      have ci : (nI (2 + 3 * T.nc + d)).toNatClampNeg = 2 + 3 * T.nc + d := nI_clamp (by omega)
      obtain ⟨e0, b0⟩ := hb (2 + 3 * T.nc + d) (by omega)
      have st : ¬ gA N 10 (gI N 13).toNatClampNeg ≤ nI d := by rw [y10]; exact nI_ge hdn (by omega)
      have oi : ¬ oob (nI (2 + 3 * T.nc + d)) 1800 := nI_in (by omega) (by decide)
      rw [nI_add]
      by_cases z : bv (2 + 3 * T.nc + d) ≤ 1
      · have hN2 : ∃ N2, N2 = sA N 31 1 (nI (Dn (fun j => bv (2 + 3 * T.nc + j)) (d + 1))) := ⟨_, rfl⟩
        obtain ⟨N2, eN⟩ := hN2
        have f1 : YF (fun a i => a = 31 ∧ i = 1) N N2 := by rw [eN]; exact YF.r.a ⟨rfl, rfl⟩
        have dk := (Dn_ok (f := fun j => bv (2 + 3 * T.nc + j)) (n := d) (by omega) hv d (Nat.le_refl _)).1
        have p := p64 (n := d) (by omega)
        obtain ⟨N', r0, r1⟩ := yon191 (n0 := n0) (b := b) h16 hs w (d + 1) N2 (by omega) (by omega) (hY.yf f1 (fun a i y => by omega)) (by rw [eN, gA_sA_ne (by decide)]; exact hb) (fun j hj => by
          by_cases y : j = d
          · rw [y]; exact z
          · exact hv j (by omega)) (by rw [eN, gA_sA, if_pos rfl, if_pos rfl])
        have k1 : nI d + 1 = nI (d + 1) := nI_add d 1
        have gg : ∀ r, yoD n0 w (nI (2 + 3 * T.nc)) (nI (d + 1)) N2 = r → (if oob (gI N 13) 2 then none else if (gA N 10 (Int32.toNatClampNeg (gI N 13))) ≤ nI d then some ((1 : Int32), N) else if oob (nI (2 + 3 * T.nc + d)) 1800 then none else if (gA N 1 (Int32.toNatClampNeg (nI (2 + 3 * T.nc + d)))) ≤ (1 : Int32) then if oob (1 : Int32) 22 then none else if oob (nI (2 + 3 * T.nc + d)) 1800 then none else if oob (1 : Int32) 22 then none else bnd (sA N 31 (Int32.toNatClampNeg (1 : Int32)) ((gA N 31 (Int32.toNatClampNeg (1 : Int32))) ||| ((gA N 1 (Int32.toNatClampNeg (nI (2 + 3 * T.nc + d)))) <<< (nI d &&& 31)))) fun M240 => yoD n0 w (nI (2 + 3 * T.nc)) (nI d + (1 : Int32)) M240 else some ((0 : Int32), N)) = r := fun r hr => by
          refine eq_f o13 (eq_f st (eq_f oi (eq_t (by rw [ci, e0]; exact nI_le (b := 1) z (by decide)) (eq_f (by decide) (eq_f oi (eq_f (by decide) (eq_e (v' := N2) ?_ ?_)))))))
          · show sA N 31 1 (gA N 31 1 ||| _) = _
            rw [ci, e0, hD, bt_on1 d (by omega) _ (by omega) dk _ (by omega), eN]
            rfl
          · rw [k1]; exact hr
        refine ⟨N', f1.tr r0, ?_⟩
        rcases r1 with ⟨s1, s2⟩ | ⟨s1, s2⟩
        · exact Or.inl ⟨gg _ s1, s2⟩
        · exact Or.inr ⟨gg _ s1, s2⟩
      · exact ⟨N, YF.r, Or.inr ⟨eq_f o13 (eq_f st (eq_f oi (eq_f (by rw [ci, e0]; exact nI_ge (a := 1) (by omega) (by omega)) rfl))), fun y => z (y d hdn)⟩⟩
abbrev yoS (n0 : Nat) : Nat → Int32 → Int32 → Int32 → Int32 → Mem → Option (Int32 × Mem) := loopN (bX12_comesOn_62 n0) (fun _ _ _ _ _ => none)
theorem yon62 {n0 L : Nat} {bv : Nat → Nat} {x2 : Int32} {N : Mem} (h16 : L ≤ 1600) (hL : 1 ≤ L) (hb : Bv (gA N 1) bv L) : ∀ w k, k ≤ L - 1 → L - 1 < w + k → yoS n0 w (nI L) x2 (nI (ckN bv k)) (nI k) N = yoS n0 1 (nI L) x2 (nI (ckN bv (L - 1))) (nI (L - 1)) N
  | 0, k, hk, hw => by omega
  | w + 1, k, hk, hw => by
    have l1 : nI L - 1 = nI (L - 1) := by
      rw [show L = (L - 1) + 1 by omega]
      exact nIs _
    by_cases g : k = L - 1
    · rw [g]
      show bX12_comesOn_62 n0 (yoS n0 w) (nI L) x2 (nI (ckN bv (L - 1))) (nI (L - 1)) N = bX12_comesOn_62 n0 (yoS n0 0) (nI L) x2 (nI (ckN bv (L - 1))) (nI (L - 1)) N
      unfold bX12_comesOn_62
      rw [l1, if_pos (Int32.le_refl _), if_pos (Int32.le_refl _)]
    · show bX12_comesOn_62 n0 (yoS n0 w) (nI L) x2 (nI (ckN bv k)) (nI k) N = _
      have ck : (nI k).toNatClampNeg = k := nI_clamp (by omega)
      obtain ⟨e0, b0⟩ := hb k (by omega)
      have ih := yon62 (n0 := n0) (x2 := x2) h16 hL hb w (k + 1) (by omega) (by omega)
      rw [← ih]
      unfold bX12_comesOn_62
      refine eq_f (by rw [l1]; exact nI_ge (by omega) (by omega)) (eq_f (nI_in (by omega) (by decide)) (eq_f (by decide) (eq_e (v' := nI (ckN bv (k + 1))) (by rw [ck, e0, ck1 (by omega)]) ?_)))
      rw [show nI k + 1 = nI (k + 1) from nI_add k 1]
theorem ycomes {n0 b m L : Nat} {T : TP} {pm : Nat → Int32 × Nat} {s : Nat × List (Nat × Nat)} {bv : Nat → Nat} {N : Mem} (hn : 1700 ≤ n0) (hY : YT n0 b T N) (hLy : LyD 0 T.nc m pm s N) (hs : sOk T.nd s) (h16 : L ≤ 1600) (hb : Bv (gA N 1) bv L) :
    (∃ N', fX12_comesOn n0 (nI L) N = some (1, N') ∧ isIm T bv L ∧ LyD 1 T.nc (256 * bv 0 + bv 1) (pIm bv) (Dn (fun j => bv (2 + 3 * T.nc + j)) T.nd, []) N' ∧ YF (lP 1) N N') ∨
    (∃ N', fX12_comesOn n0 (nI L) N = some (0, N') ∧ ¬ isIm T bv L ∧ YF (lP 1) N N') := by
  obtain ⟨o1, o2, o3, _⟩ := hY.2.1
  have hbb := hY.2.2.1
  have hl := hs.l
  have o13 : ¬ oob (gI N 13) 2 := by rw [hY.2.2.2.1]; exact nI_in (by omega) (by decide)
  have y5 : gA N 5 (gI N 13).toNatClampNeg = nI T.nc := by rw [hY.2.2.2.1, nI_clamp (by omega)]; exact hY.2.2.2.2.2.1
  have y10 : gA N 10 (gI N 13).toNatClampNeg = nI T.nd := by rw [hY.2.2.2.1, nI_clamp (by omega)]; exact hY.2.2.2.2.2.2.1
  have ix : (2 : Int32) + 3 * gA N 5 (gI N 13).toNatClampNeg = nI (2 + 3 * T.nc) := by rw [y5, n3, show (2 : Int32) = nI 2 from rfl, nI_add]
  have ez : nI (2 + 3 * T.nc) + gA N 10 (gI N 13).toNatClampNeg + 1 = nI (2 + 3 * T.nc + T.nd + 1) := by rw [y10, nI_add]; exact nI_add _ 1
  by_cases g1 : L = 2 + 3 * T.nc + T.nd + 1
  · obtain ⟨e0, b0⟩ := hb 0 (by omega)
    obtain ⟨e1, b1⟩ := hb 1 (by omega)
    have hp : (gA N 1 (Int32.toNatClampNeg 0) <<< ((8 : Int32) &&& 31)) ||| gA N 1 (Int32.toNatClampNeg 1) = nI (256 * bv 0 + bv 1) := by
      show (gA N 1 0 <<< _) ||| gA N 1 1 = _
      rw [e0, e1, pair8 b0 b1]
    have l1 : nI L - 1 = nI (L - 1) := by
      rw [show L = (L - 1) + 1 by omega]
      exact nIs _
    by_cases g2 : 256 * bv 0 + bv 1 ≤ 9999
    · have st : ∀ r, yoS n0 1 (nI L) (nI (2 + 3 * T.nc)) (nI (ckN bv (L - 1))) (nI (L - 1)) N = r → fX12_comesOn n0 (nI L) N = r := fun r hr => by
        unfold fX12_comesOn
        refine eq_f o13 (eq_e ix (eq_f o13 (eq_t (by rw [ez, g1]) (eq_f (by decide) (eq_f (by decide) (eq_t (by rw [hp]; exact nI_le (b := 9999) g2 (by decide)) ?_))))))
        exact (yon62 (n0 := n0) (x2 := nI (2 + 3 * T.nc)) h16 (by omega) hb n0 0 (by omega) (by omega)).trans hr
      obtain ⟨e3, b3⟩ := hb (L - 1) (by omega)
      have c3 := ckN_lt bv (L - 1)
      have cl : (nI (L - 1)).toNatClampNeg = L - 1 := nI_clamp (by omega)
      have ol : ¬ oob (nI L - 1) 1800 := by rw [l1]; exact nI_in (by omega) (by decide)
      by_cases g3 : bv (L - 1) = ckN bv (L - 1)
      · obtain ⟨N1, k1, k2, k3, k4, k5, k6, k7⟩ := ycopy (n0 := n0) (v := 1) (u := 0) (kn := s.2.length) (M := N) hn (by decide) (by decide) (by decide) (by omega) hLy.2.2.1
        have hN2 : ∃ N2, N2 = sA (sA (sA N1 28 1 (nI (256 * bv 0 + bv 1))) 31 1 0) 32 1 0 := ⟨_, rfl⟩
        obtain ⟨N2, eN⟩ := hN2
        have f2 : YF (lP 1) N N2 := by
          rw [eN]
          exact ((k7.a (by unfold lP tP; omega)).a (by unfold lP dP; omega)).a (by unfold lP dP; omega)
        have t1 : gA N1 1 = gA N 1 := k7.gA (fun i y => by unfold lP tP dP at y; omega) (by decide)
        have t2 : gA N2 1 = gA N 1 := f2.gA (fun i y => by unfold lP tP dP at y; omega) (by decide)
        have hb2 : Bv (gA N2 1) bv L := by rw [t2]; exact hb
        have s62 : yoS n0 1 (nI L) (nI (2 + 3 * T.nc)) (nI (ckN bv (L - 1))) (nI (L - 1)) N = fX12_comesOn_151 n0 (nI (2 + 3 * T.nc)) 0 N2 := by
          show bX12_comesOn_62 n0 (yoS n0 0) (nI L) (nI (2 + 3 * T.nc)) (nI (ckN bv (L - 1))) (nI (L - 1)) N = _
          unfold bX12_comesOn_62
          refine eq_t (by rw [l1]; exact Int32.le_refl _) (eq_f ol (eq_t (by rw [l1, cl, e3, g3]) (eq_b k1 (eq_f (by decide) (eq_f (by decide) (eq_f (by decide) (eq_e (v' := sA N1 28 1 (nI (256 * bv 0 + bv 1))) ?_ (eq_f (by decide) (eq_n (eq_f (by decide) (eq_e (v' := N2) (by rw [eN]; rfl) rfl)))))))))))
          rw [t1, hp]
          rfl
        obtain ⟨N3, q0, q1, _, q3⟩ := yon151 (n0 := n0) (b := b) (x2 := nI (2 + 3 * T.nc)) h16 g1 n0 0 N2 (by omega) (by omega) (hY.yf f2 lP28) hb2
        have f3 : YF (lP 1) N N3 := f2.tr (q0.wk (fun a i y => Or.inl y))
        rcases q3 with ⟨s1, s2⟩ | ⟨s1, s2⟩
        · have a31 : gA N3 31 1 = nI (Dn (fun j => bv (2 + 3 * T.nc + j)) 0) := by
            rw [q0.2.2.2.1 31 1 (by decide) (fun y => by unfold tP at y; omega), eN, gA_sA_ne (by decide), gA_sA, if_pos rfl, if_pos rfl]
            rfl
          have a32 : gA N3 32 1 = 0 := by
            rw [q0.2.2.2.1 32 1 (by decide) (fun y => by unfold tP at y; omega), eN, gA_sA, if_pos rfl, if_pos rfl]
          have t3 : gA N3 1 = gA N 1 := f3.gA (fun i y => by unfold lP tP dP at y; omega) (by decide)
          obtain ⟨N4, u0, u1⟩ := yon191 (n0 := n0) (b := b) (T := T) (bv := bv) h16 g1 n0 0 N3 (by omega) (by omega) (hY.yf f3 lP28) (by rw [t3]; exact hb) (fun j hj => by omega) a31
          have f4 : YF (lP 1) N N4 := f3.tr (u0.wk (fun a i y => by unfold lP dP; omega))
          rcases u1 with ⟨v1, v2, v3⟩ | ⟨v1, v2⟩
          · refine Or.inl ⟨N4, st _ (s62.trans (s1.trans v1)), ⟨g1, g2, fun j hj => (s2 j (by omega) hj).1, v2, g3⟩, ⟨⟨?_, fun c hc => ?_⟩, v3, ?_, fun i p hp => by simp at hp⟩, f4⟩
            · rw [u0.2.2.2.1 28 1 (by decide) (fun y => by omega), q1, eN, gA_sA_ne (by decide), gA_sA_ne (by decide), gA_sA, if_pos rfl, if_pos rfl]
            · rw [u0.2.2.2.1 29 _ (by decide) (fun y => by omega), u0.2.2.2.1 30 _ (by decide) (fun y => by omega)]
              exact (s2 c (by omega) hc).2
            · rw [u0.2.2.2.1 32 1 (by decide) (fun y => by omega), a32]
              rfl
          · exact Or.inr ⟨N4, st _ (s62.trans (s1.trans v1)), fun y => v2 y.2.2.2.1, f4⟩
        · exact Or.inr ⟨N3, st _ (s62.trans s1), fun y => s2 (fun j _ hj => y.2.2.1 j hj), f3⟩
      · refine Or.inr ⟨N, st _ ?_, fun y => g3 y.2.2.2.2, YF.r⟩
        show bX12_comesOn_62 n0 (yoS n0 0) (nI L) (nI (2 + 3 * T.nc)) (nI (ckN bv (L - 1))) (nI (L - 1)) N = _
        unfold bX12_comesOn_62
        exact eq_t (by rw [l1]; exact Int32.le_refl _) (eq_f ol (eq_f (by rw [l1, cl, e3]; exact fun y => g3 ((nI_eq (by omega) (by omega)).mp y)) rfl))
    · refine Or.inr ⟨N, ?_, fun y => g2 y.2.1, YF.r⟩
      unfold fX12_comesOn
      exact eq_f o13 (eq_e ix (eq_f o13 (eq_t (by rw [ez, g1]) (eq_f (by decide) (eq_f (by decide) (eq_f (by rw [hp]; exact nI_ge (a := 9999) (by omega) (by omega)) rfl))))))
  · refine Or.inr ⟨N, ?_, fun y => g1 y.1, YF.r⟩
    unfold fX12_comesOn
    exact eq_f o13 (eq_e ix (eq_f o13 (eq_f (by rw [ez]; exact fun y => g1 ((nI_eq (by omega) (by omega)).mp y)) rfl)))
theorem cOn {n0 : Nat} {MX MY : Mem} (hn : 1700 ≤ n0) (h : R n0 MX MY) : Cal n0 (fX11_on n0 MX) (fX12_on n0 MY) := by
  have hg := h.gone
  obtain ⟨q, b, T, nr, C, m, pm, s, h⟩ := h
  obtain ⟨h1, h2, h3, h4, h5, h6, h7⟩ := id h
  obtain ⟨o1, o2, o3, _⟩ := h1.2.2.2.1.2.1
  have hl := h2.2.2.l
  obtain ⟨L, l1, l2, l3, l4, l5⟩ := h7.2.2.2.2.1
  have hbx : Bv (gA MX 6) (fun i => (gA MX 6 i).toNatClampNeg) L := byt_bv l5
  have hbv : ∃ bv, bv = fun i => (gA MX 6 i).toNatClampNeg := ⟨_, rfl⟩
  obtain ⟨bv, ebv⟩ := hbv
  rw [← ebv] at hbx
  have hby : Bv (gA (sI MY 1 0) 1) bv L := by
    show Bv (gA MY 1) bv L
    rw [l4]
    exact hbx
  have hY1 : YT n0 b T (sI MY 1 0) := h1.2.2.2.2.1.tw yTw.r (gI_ne (by decide))
  rcases ycomes (n0 := n0) (b := b) (m := m) (pm := pm) (s := s) hn hY1 h4 h2.2.2 l1 hby with ⟨N1, k1, k2, k3, k4⟩ | ⟨N1, k1, k2, k4⟩
  · rcases xisIm (n0 := n0) hn h1.2.2.2.1 h3.2.1 l2 l1 hbx with ⟨x1, _⟩ | ⟨_, x2⟩
    · obtain ⟨i1, i2, i3, i4, i5⟩ := k2
      -- the class
      have hX1 : ∃ X1, X1 = sI (sI MX 1281 (nI (256 * bv 0 + bv 1))) 1285 0 := ⟨_, rfl⟩
      obtain ⟨X1, eX⟩ := hX1
      have xq : gR X1 1280 = q := by rw [eX]; exact h3.2.1
      obtain ⟨X2, a1, a2, a3, a4, a5, a6, a7, a8⟩ := xrd16 (n0 := n0) (nc := T.nc) (nd := T.nd) (bv := bv) hn o2 o3 l1 i1 n0 0 X1 (by omega) (by omega) (by rw [xq, eX, gI_ne (by rcases h1.1 with z | z <;> omega), gI_ne (by rcases h1.1 with z | z <;> omega)]; exact h1.2.2.2.1.2.2.1) (by rw [xq, eX, gI_ne (by rcases h1.1 with z | z <;> omega), gI_ne (by rcases h1.1 with z | z <;> omega)]; exact h1.2.2.2.1.2.2.2.1) (by rw [eX, gI_ne (by decide), gI_ne (by decide)]; exact l2) (by rw [eX]; exact hbx)
      have cx : fX11_on n0 MX = some (1, sI (sI X2 2050 0) 641 0) := by
        unfold fX11_on
        refine eq_b x1 (eq_f (show ¬ (1 : Int32) = 0 by decide) (eq_b (z := X2) ?_ ?_))
        · unfold fX6_readImage
          refine eq_b (z := (nI (256 * bv 0 + bv 1), MX)) (xpair (n0 := n0) l2 l1 hbx (i := 0) (by omega)) (eq_n (eq_e (v' := X1) (by rw [eX]) a1))
        · unfold fX11_on_44
          exact eq_n (eq_t (Or.inr rfl) rfl)
      -- the reference
      obtain ⟨N2, c1, c2, c3⟩ := ycopyD (n0 := n0) (v := 0) (u := 1) (M := N1) hn (by decide) (by decide) (by decide) o2 (Nat.zero_le _) k3
      have cy : fX12_on n0 MY = some (1, sI N2 54 0) := by
        unfold fX12_on
        exact eq_e l3 (eq_n (eq_b k1 (eq_f (show ¬ (1 : Int32) = 0 by decide) (eq_b c1 rfl))))
      have dk := Dn_ok (f := fun j => bv (2 + 3 * T.nc + j)) (n := T.nd) o3 i4 T.nd (Nat.le_refl _)
      have xI : ∀ k, ¬ (k = 641 ∨ k = 2050 ∨ k = 1281 ∨ k = 1285) → gI (sI (sI X2 2050 0) 641 0) k = gI MX k := fun k z => by rw [gI_ne (by omega), gI_ne (by omega), a7, eX, gI_ne (by omega), gI_ne (by omega)]
      have xA : ∀ a, ¬ (a = 11 ∨ a = 12 ∨ a = 13) → gA X2 a = gA MX a := fun a z => by
        funext i
        rw [a8 a i (by omega), eX]
        rfl
      have xR : gR X2 = gR MX := by rw [a4, eX]; rfl
      have yI : ∀ k, ¬ (k = 1 ∨ k = 54) → gI (sI N2 54 0) k = gI MY k := fun k z => by rw [gI_ne (by omega), c3.2.2.1, k4.2.2.1, gI_ne (by omega)]
      have yA : ∀ a i, ¬ a = 35 → ¬ lP 0 a i → ¬ lP 1 a i → gA N2 a i = gA MY a i := fun a i z0 z1 z2 => by rw [c3.2.2.2.1 a i z0 z1, k4.2.2.2.1 a i z0 z2]; rfl
      have yA2 : ∀ a, ¬ (28 ≤ a ∧ a ≤ 33) → ¬ a = 35 → gA N2 a = gA MY a := fun a z1 z2 => by
        funext i
        exact yA a i z2 (fun z => by unfold lP tP dP at z; omega) (fun z => by unfold lP tP dP at z; omega)
      refine ⟨1, _, _, cx, cy, q, b, T, nr, C, 256 * bv 0 + bv 1, pIm bv, (Dn (fun j => bv (2 + 3 * T.nc + j)) T.nd, []), h1.cgs xR (fun k z => xI k (by omega)) (fun a z1 z2 => xA a (by omega)) (yI 13 (by decide)) (fun a z1 z2 => yA2 a (by omega) (by omega)) (fun a z1 z2 => by show gB N2 a = _; rw [c3.2.2.2.2 a (by omega), k4.2.2.2.2 a (by omega)]; rfl), ⟨i2, fun c hc => ?_, dk.1, Nat.zero_le _⟩, ?_, c2, ?_, h6.cg (xI 2688 (by decide)) (yI 61 (by decide)) (fun a z1 z2 => xA a (by omega)) (fun a z1 z2 => yA2 a (by omega) (by omega)), ?_⟩
      · have k := i3 c hc
        refine ⟨?_, k.2⟩
        show tOk T.nt (if bv (2 + 3 * c) = 255 then -1 else nI (bv (2 + 3 * c)))
        by_cases z : bv (2 + 3 * c) = 255
        · rw [if_pos z]; exact Or.inl rfl
        · rw [if_neg z]; exact Or.inr ⟨_, k.1.resolve_left z, rfl⟩
      · refine ⟨by show gR X2 896 = q; rw [xR]; exact h3.1, by show gR X2 1280 = q; rw [xR]; exact h3.2.1, ?_, fun c hc => a2 c (by omega) hc, fun d hd => ?_, ?_, fun i p hp => by simp at hp⟩
        · rw [gI_ne (by decide), gI_ne (by decide), a7, eX, gI_ne (by decide), gI_at]
        · show gA X2 13 d = _
          rw [a3 d hd, dk.2 d hd]
        · rw [gI_ne (by decide), gI_ne (by decide), a7, eX, gI_at]
          rfl
      · obtain ⟨x0, f, u, e, p1, p2, p3, p4, p5, p6, p7, p8, p9⟩ := h5
        refine ⟨(x0 + u) % 20, f, 0, e, by omega, p2, by omega, ?_, ?_, ?_, ?_, fun i hi => by omega, fun i j _ hj => by omega⟩
        · rw [xI 2049 (by decide), p4]; congr 1; omega
        · rw [gI_ne (by decide), gI_at]; rfl
        · rw [yI 53 (by decide)]; exact p6
        · rw [gI_at]; rfl
      · obtain ⟨p1, p2, p3, p4, p5, p6⟩ := h7
        refine ⟨p1.cg (xI 17 (by decide)) (by show gL N2 55 = _; rw [c3.2.1, k4.2.1]; rfl), p2.cg (xI 14 (by decide)) (yI 67 (by decide)) (xA 29 (by omega)) (yA2 43 (by omega) (by omega)), p3.cg (xA 30 (by omega)) (yA2 27 (by omega) (by omega)), p4.cg (xI 15 (by decide)) (xI 16 (by decide)) (yI 10 (by decide)) (yI 11 (by decide)), ⟨0, by omega, gI_at, ?_, ?_, fun i hi => by omega⟩, p6.cg (xA 4 (by omega))⟩
        · rw [gI_ne (by decide), c3.2.2.1, k4.2.2.1, gI_at]; rfl
        · show gA N2 1 = gA X2 6
          rw [yA2 1 (by omega) (by omega), xA 6 (by omega)]
          exact l4
    · exact absurd k2 x2
  · rcases xisIm (n0 := n0) hn h1.2.2.2.1 h3.2.1 l2 l1 hbx with ⟨_, x2⟩ | ⟨x1, _⟩
    · exact absurd x2 k2
    · have hR : R n0 (sI MX 641 0) N1 := by
        obtain ⟨q', b', T', nr', C', m', pm', s', hg⟩ := hg
        exact ⟨q', b', T', nr', C', m', pm', s', hg.scr XF.r (k4.wk (fun a i z => Or.inl z))⟩
      refine Cal.ref (k := 5) (r := 0) hR (by decide) ?_ ?_
      · unfold fX11_on
        refine eq_b x1 (eq_t rfl (eq_b (xref (k := 5) (by decide)) ?_))
        unfold fX11_on_44
        exact eq_n (eq_t (Or.inl rfl) rfl)
      · unfold fX12_on
        exact eq_e l3 (eq_n (eq_b k1 (eq_t rfl (eq_b (yref (k := 5) (by decide)) (eq_t (show (-1 : Int32) < 0 by decide) rfl)))))
end
section
/-! HOURS AHEAD ON BOTH SIDES: later, when, alike -/
theorem xfc {n0 q c m most q1 : Nat} {T : TP} {pm : Nat → Int32 × Nat} {s : Nat × List (Nat × Nat)} {M : Mem} (hn : 1700 ≤ n0) (hT : XT n0 q T M) (hS : SX q T.nc T.nd m pm s M) (hO : PsO T.nt T.nc pm) (hc : c < T.nc) (hm : m ≤ 9999) (h60 : most ≤ 60) (hq1 : q1 = 26 ∨ q1 = 27) : ∃ M', fX11_foresee n0 q1 (nI c) (nI most) M = some (nI (min most (9999 - m)), M') ∧ (∀ j, j ≤ min most (9999 - m) → gA M' q1 j = nI (hrs T.hF T.gF c m (pm c) j)) ∧ XF (fun a => a = q1) M M' := by
  have h5 := hT.2.1.2.1
  have f1 : XF (fun a => a = q1) M (hld M (nI c) (pm c).1 (nI (pm c).2) (nI m)) := hld_f
  obtain ⟨M2, e1, e2, e3⟩ := xfor (n0 := n0) (most := most) hn (hT.1.xf f1 (fun a z => by omega)) (hld_p hS.1) (by omega) (hO c hc) hm h60 hq1
  refine ⟨M2, ?_, e2, f1.tr e3⟩
  unfold fX11_foresee
  exact eq_b (xlook hS h5 hc) (eq_b e1 rfl)
theorem hrs_le {n0 b : Nat} {T : TP} {M : Mem} (hY : YT n0 b T M) {c m k : Nat} {p : Int32 × Nat} (hc : c < T.nc) (hp : pOk T.nt p) (hm : m + k ≤ 20000) : hrs T.hF T.gF c m p k ≤ 23 := by
  have h5 := hY.2.1.2.1
  have ok := tr_ok (gF := T.gF) (c := c) (m := m) hp k
  have hb := hY.2.2.1
  -- a layer that tells just that
  have := (hY.1 (sA (sA (sA M 28 0 (nI (m + k))) 29 (5 * 0 + c) (tr T.gF c m p k).1) 30 (5 * 0 + c) (nI (tr T.gF c m p k).2)) 0 c (tr T.gF c m p k).1 (tr T.gF c m p k).2 (m + k) (yTw.all (fun a _ z => by rw [gA_sA_ne (by omega), gA_sA_ne (by omega), gA_sA_ne (by omega)]) (fun _ _ _ => rfl)) ⟨hY.2.2.2.1, by decide, by rw [gA_sA_ne (by decide), gA_sA_ne (by decide), gA_sA, if_pos rfl, if_pos rfl], by rw [gA_sA_ne (by decide), gA_sA, if_pos rfl, if_pos rfl], by rw [gA_sA, if_pos rfl, if_pos rfl]⟩ ⟨by omega, ok.1, ok.2, hm⟩).1
  exact this
def trP (T : TP) (m : Nat) (pm : Nat → Int32 × Nat) (k : Nat) : Nat → Int32 × Nat := fun c => tr T.gF c m (pm c) k
theorem trP_ok {T : TP} {m : Nat} {pm : Nat → Int32 × Nat} (h : PsO T.nt T.nc pm) (k : Nat) : PsO T.nt T.nc (trP T m pm k) := fun c hc => tr_ok (h c hc) k
theorem trP_n {T : TP} {m : Nat} {pm : Nat → Int32 × Nat} (k : Nat) : nxP T (m + k) (trP T m pm k) = trP T m pm (k + 1) := rfl
theorem yahT {n0 m lo hi k : Nat} {M : Mem} (h28 : gA M 28 0 = nI m) (h1 : lo ≤ k) (h2 : k ≤ hi) (hhi : hi ≤ 100) (h3 : m + k ≤ 9999) : fX12_isAhead n0 (nI k) (nI lo) (nI hi) M = some (1, M) := by
  rcases yah (n0 := n0) (lo := lo) (hi := hi) (nI k) h28 (by omega) hhi (by omega) with ⟨_, _, _, _, _, e⟩ | ⟨z, _⟩
  · exact e
  · rcases z with z | z | ⟨j, j1, j2, j3, j4⟩
    · have := (nI_ltI (by omega) (by omega)).mp z; omega
    · have := (nI_ltI (by omega) (by omega)).mp z; omega
    · have := (nI_eq (by omega) (by omega)).mp j3; omega
theorem yahF {n0 m lo hi k : Nat} {M : Mem} (h28 : gA M 28 0 = nI m) (hm : m ≤ 9999) (hhi : hi ≤ 100) (hlo : lo ≤ hi) (hk : k ≤ 1000) (h3 : ¬ (k ≤ hi ∧ m + k ≤ 9999)) : fX12_isAhead n0 (nI k) (nI lo) (nI hi) M = some (0, M) := by
  rcases yah (n0 := n0) (lo := lo) (hi := hi) (nI k) h28 hm hhi hlo with ⟨j, j1, j2, j3, j4, _⟩ | ⟨_, e⟩
  · have := (nI_eq (by omega) (by omega)).mp j4; omega
  · exact e
theorem m28f {P : Nat → Nat → Prop} {M M' : Mem} {x : Int32} (h : gA M 28 0 = x) (f : YF P M M') (hP : ¬ P 28 0) : gA M' 28 0 = x := (f.2.2.2.1 28 0 (by decide) hP).trans h
theorem n28 : ¬ lP 1 28 0 := fun z => by unfold lP tP dP at z; omega
theorem lsc {M M' : Mem} (f : YF (lP 1) M M') : YF scP M M' := f.wk (fun _ _ z => Or.inl z)
-- later
abbrev ylL (n0 : Nat) : Nat → Int32 → Int32 → Int32 → Mem → Option (Int32 × Mem) := loopN (bX12_later_29 n0) (fun _ _ _ _ => none)
theorem ylat {n0 b c m n : Nat} {T : TP} {pm : Nat → Int32 × Nat} (hn : 1700 ≤ n0) (hc : c < T.nc) (hO : PsO T.nt T.nc pm) (hm : m + n ≤ 9999) : ∀ w k M (s : Nat × List (Nat × Nat)), k ≤ n → n < w + k → YT n0 b T M → LyD 1 T.nc (m + k) (trP T m pm k) s M → sOk T.nd s → ∃ M', ylL n0 w (nI c) (nI n) (nI k) M = some (nI (hrs T.hF T.gF c m (pm c) n), M') ∧ YF (lP 1) M M'
  | 0, k, M, s, hk, hw, _, _, _ => by omega
  | w + 1, k, M, s, hk, hw, hY, hL, hs => by
    show ∃ M', bX12_later_29 n0 (ylL n0 w) (nI c) (nI n) (nI k) M = _ ∧ _
    unfold bX12_later_29
    by_cases g : k = n
    · subst g
      obtain ⟨_, M1, e1, e2⟩ := yhr hY (v := 1) (by decide) hL.1 (trP_ok hO k) (by omega) hc
      exact ⟨M1, eq_t (Int32.le_refl _) (eq_b e1 rfl), e2.y⟩
    · obtain ⟨M1, e1, e2, e3, e4⟩ := ypassD (v := 1) hn hY (by decide) hL (trP_ok hO k) hs (by omega)
      obtain ⟨M', r1, r2⟩ := ylat hn hc hO hm w (k + 1) M1 _ (by omega) (by omega) (hY.yf e4 lP28) e2 e3
      refine ⟨M', eq_f (nI_ge (by omega) (by omega)) (eq_b e1 ?_), e4.tr r2⟩
      rw [show nI k + 1 = nI (k + 1) from nI_add k 1]
      exact r1
theorem cLater {n0 : Nat} {x y : Int32} {MX MY : Mem} (hn : 1700 ≤ n0) (h : R n0 MX MY) : Cal n0 (fX11_later n0 x y MX) (fX12_later n0 x y MY) := by
  have h0 := h
  obtain ⟨q, b, T, nr, C, m, pm, s, h⟩ := h
  obtain ⟨h1, h2, h3, h4, _⟩ := id h
  have hm := h2.1
  have hl := h2.2.2.l
  have y28 : gA MY 28 0 = nI m := h4.1.1
  unfold fX11_later fX12_later
  rcases isCo h1 x with ⟨c, hc, rfl, e1, e2⟩ | ⟨z, e1, e2⟩
  · rcases yah (n0 := n0) (lo := 0) (hi := 60) y y28 hm (by decide) (by decide) with ⟨k, _, k2, k3, rfl, e⟩ | ⟨z, e⟩
    · rcases ahead2 h k (by omega) with ⟨_, e3, _⟩ | ⟨g, _⟩
      · obtain ⟨X1, a1, a2, a3⟩ := xfc (n0 := n0) (q1 := 26) (most := k) hn h1.2.2.2.1 h3 h2.2.1 hc hm (by omega) (Or.inl rfl)
        obtain ⟨Y1, b1, b2, b3⟩ := ycopyD (n0 := n0) (v := 1) (u := 0) hn (by decide) (by decide) (by decide) h1.2.2.2.1.2.1.2.1 (by omega) h4
        obtain ⟨Y2, c1, c2⟩ := ylat (n0 := n0) (b := b) (m := m) hn hc h2.2.1 k3 n0 0 Y1 s (by omega) (by omega) (h1.2.2.2.2.1.yf b3 lP28) b2 h2.2.2
        refine Cal.scr h (eq_b e1 (eq_f (show ¬ (1 : Int32) = 0 by decide) (eq_f (nI_nn (by omega)) (eq_f (fun z => by have := (nI_ltI (a := 60) (by decide) (by omega)).mp z; omega) (eq_b e3 (eq_t rfl (eq_b a1 (eq_f (nI_in (by omega) (by decide)) ?_)))))))) (eq_b e2 (eq_f (show ¬ (1 : Int32) = 0 by decide) (eq_b e (eq_f (show ¬ (1 : Int32) = 0 by decide) (eq_b b1 c1))))) (a3.wk (fun a z => by unfold scA; omega)) (lsc (b3.tr c2))
        rw [nI_clamp (by omega), a2 k (by omega)]
      · exact absurd k3 g
    · refine Cal.same (r := -1) h0 ?_ (eq_b e2 (eq_f (show ¬ (1 : Int32) = 0 by decide) (eq_b e (eq_t rfl rfl))))
      refine eq_b e1 (eq_f (show ¬ (1 : Int32) = 0 by decide) ?_)
      rcases z with z | z | ⟨k, k1, k2, rfl, k3⟩
      · exact eq_t z rfl
      · by_cases g : y < 0
        · exact eq_t g rfl
        · exact eq_f g (eq_t z rfl)
      · rcases ahead2 h k (by omega) with ⟨g, _⟩ | ⟨_, e3, _⟩
        · exact absurd g k3
        · exact eq_f (nI_nn (by omega)) (eq_f (fun z => by have := (nI_ltI (a := 60) (by decide) (by omega)).mp z; omega) (eq_b e3 (eq_f (show ¬ (1 : Int32) = 0 by decide) rfl)))
  · exact Cal.same (r := -1) h0 (eq_b e1 (eq_t rfl rfl)) (eq_b e2 (eq_t rfl rfl))
/-- the first number from k on, of r of them, at which something is so -/
def fst1 (P : Nat → Bool) : Nat → Nat → Int32
  | _, 0 => -1
  | k, r + 1 => if P k = true then nI k else fst1 P (k + 1) r
-- alike
abbrev xkL (n0 : Nat) : Nat → Int32 → Int32 → Mem → Option (Int32 × Mem) := loopN (bX11_alike_56 n0) (fun _ _ _ => none)
theorem xalk {n0 last : Nat} {f g : Nat → Nat} {M : Mem} (h60 : last ≤ 60) (hf : ∀ j, j ≤ last → f j ≤ 23 ∧ g j ≤ 23) (h1 : ∀ j, j ≤ last → gA M 26 j = nI (f j)) (h2 : ∀ j, j ≤ last → gA M 27 j = nI (g j)) : ∀ w k, k ≤ last + 1 → last + 1 < w + k → xkL n0 w (nI last) (nI k) M = some (fst1 (fun j => decide (f j = g j)) k (last + 1 - k), M)
  | 0, k, hk, hw => by omega
  | w + 1, k, hk, hw => by
    show bX11_alike_56 n0 (xkL n0 w) (nI last) (nI k) M = _
    unfold bX11_alike_56
    by_cases z : k = last + 1
    · rw [z, Nat.sub_self]
      exact eq_t (nI_lt (by omega) (by omega)) rfl
    · have ck : (nI k).toNatClampNeg = k := nI_clamp (by omega)
      have ok : ¬ oob (nI k) 61 := nI_in (by omega) (by decide)
      obtain ⟨b1, b2⟩ := hf k (by omega)
      have st : ¬ nI last < nI k := fun y => by have := (nI_ltI (by omega) (by omega)).mp y; omega
      rw [show last + 1 - k = (last + 1 - (k + 1)) + 1 by omega]
      show _ = some (if decide (f k = g k) = true then nI k else fst1 (fun j => decide (f j = g j)) (k + 1) (last + 1 - (k + 1)), M)
      by_cases y : f k = g k
      · rw [if_pos (decide_eq_true y)]
        exact eq_f st (eq_f ok (eq_f ok (eq_t (by rw [ck, h1 k (by omega), h2 k (by omega), y]) rfl)))
      · rw [if_neg (fun u => y (of_decide_eq_true u))]
        refine eq_f st (eq_f ok (eq_f ok (eq_f (by rw [ck, h1 k (by omega), h2 k (by omega)]; exact fun u => y ((nI_eq (by omega) (by omega)).mp u)) ?_)))
        rw [show nI k + 1 = nI (k + 1) from nI_add k 1]
        exact xalk h60 hf h1 h2 w (k + 1) (by omega) (by omega)
abbrev ykL (n0 : Nat) : Nat → Int32 → Int32 → Int32 → Mem → Option (Int32 × Mem) := loopN (bX12_alike_31 n0) (fun _ _ _ _ => none)
theorem yalk {n0 b c1 c2 m : Nat} {T : TP} {pm : Nat → Int32 × Nat} (hn : 1700 ≤ n0) (hc1 : c1 < T.nc) (hc2 : c2 < T.nc) (hO : PsO T.nt T.nc pm) (hm : m ≤ 9999) : ∀ w k M (s : Nat × List (Nat × Nat)), k ≤ min 60 (9999 - m) + 1 → min 60 (9999 - m) + 1 < w + k → YT n0 b T M → LyD 1 T.nc (m + k) (trP T m pm k) s M → sOk T.nd s → gA M 28 0 = nI m → ∃ M', ykL n0 w (nI c1) (nI c2) (nI k) M = some (fst1 (fun j => decide (hrs T.hF T.gF c1 m (pm c1) j = hrs T.hF T.gF c2 m (pm c2) j)) k (min 60 (9999 - m) + 1 - k), M') ∧ YF (lP 1) M M'
  | 0, k, M, s, hk, hw, _, _, _, _ => by omega
  | w + 1, k, M, s, hk, hw, hY, hL, hs, h28 => by
    show ∃ M', bX12_alike_31 n0 (ykL n0 w) (nI c1) (nI c2) (nI k) M = _ ∧ _
    unfold bX12_alike_31
    by_cases z : k = min 60 (9999 - m) + 1
    · rw [z, Nat.sub_self]
      exact ⟨M, eq_b (yahF (lo := 0) (hi := 60) h28 hm (by decide) (by decide) (by omega) (by omega)) (eq_t rfl rfl), YF.r⟩
    · obtain ⟨l1, M1, e1, e2⟩ := yhr hY (v := 1) (by decide) hL.1 (trP_ok hO k) (by omega) hc1
      have f1 : YF (lP 1) M M1 := e2.y
      have Y1 := hY.yf f1 lP28
      have h5 := hY.2.1.2.1
      have hl := hs.l
      have L1 : LyD 1 T.nc (m + k) (trP T m pm k) s M1 := hL.fr (P := fun _ _ => False) e2.y h5 (by omega) (fun _ _ z => z.elim)
      obtain ⟨l2, M2, e3, e4⟩ := yhr Y1 (v := 1) (by decide) L1.1 (trP_ok hO k) (by omega) hc2
      have f2 : YF (lP 1) M M2 := f1.tr e4.y
      have L2 : LyD 1 T.nc (m + k) (trP T m pm k) s M2 := L1.fr (P := fun _ _ => False) e4.y h5 (by omega) (fun _ _ z => z.elim)
      have a1 := yahT (n0 := n0) (lo := 0) (hi := 60) (k := k) h28 (by omega) (by omega) (by decide) (by omega)
      rw [show min 60 (9999 - m) + 1 - k = (min 60 (9999 - m) + 1 - (k + 1)) + 1 by omega]
      show ∃ M', _ = some (if decide (hrs T.hF T.gF c1 m (pm c1) k = hrs T.hF T.gF c2 m (pm c2) k) = true then nI k else fst1 _ (k + 1) (min 60 (9999 - m) + 1 - (k + 1)), M') ∧ _
      by_cases y : hrs T.hF T.gF c1 m (pm c1) k = hrs T.hF T.gF c2 m (pm c2) k
      · rw [if_pos (decide_eq_true y)]
        exact ⟨M2, eq_b a1 (eq_f (show ¬ (1 : Int32) = 0 by decide) (eq_b e1 (eq_b e3 (eq_t (congrArg nI y) rfl)))), f2⟩
      · rw [if_neg (fun u => y (of_decide_eq_true u))]
        obtain ⟨M3, g1, g2, g3, g4⟩ := ypassD (v := 1) hn (hY.yf f2 lP28) (by decide) L2 (trP_ok hO k) hs (by omega)
        obtain ⟨M', r1, r2⟩ := yalk hn hc1 hc2 hO hm w (k + 1) M3 _ (by omega) (by omega) ((hY.yf f2 lP28).yf g4 lP28) g2 g3 (m28f (m28f h28 f2 n28) g4 n28)
        refine ⟨M', eq_b a1 (eq_f (show ¬ (1 : Int32) = 0 by decide) (eq_b e1 (eq_b e3 (eq_f (fun u => y ((nI_eq (Nat.lt_of_le_of_lt l1 (by decide)) (Nat.lt_of_le_of_lt l2 (by decide))).mp u)) (eq_b g1 ?_))))), f2.tr (g4.tr r2)⟩
        rw [show nI k + 1 = nI (k + 1) from nI_add k 1]
        exact r1
theorem cAlike {n0 : Nat} {x y : Int32} {MX MY : Mem} (hn : 1700 ≤ n0) (h : R n0 MX MY) : Cal n0 (fX11_alike n0 x y MX) (fX12_alike n0 x y MY) := by
  have h0 := h
  obtain ⟨q, b, T, nr, C, m, pm, s, h⟩ := h
  obtain ⟨h1, h2, h3, h4, _⟩ := id h
  have hm := h2.1
  have hl := h2.2.2.l
  have h5 := h1.2.2.2.1.2.1.2.1
  have y28 : gA MY 28 0 = nI m := h4.1.1
  unfold fX11_alike fX12_alike
  rcases isCo h1 x with ⟨c, hc, rfl, e1, e2⟩ | ⟨z, e1, e2⟩
  · rcases isCo h1 y with ⟨d, hd, rfl, e3, e4⟩ | ⟨z, e3, e4⟩
    · by_cases g : c = d
      · subst g
        exact Cal.same (r := -1) h0 (eq_b e1 (eq_f (show ¬ (1 : Int32) = 0 by decide) (eq_b e3 (eq_f (show ¬ (1 : Int32) = 0 by decide) (eq_t rfl rfl))))) (eq_b e2 (eq_f (show ¬ (1 : Int32) = 0 by decide) (eq_b e4 (eq_f (show ¬ (1 : Int32) = 0 by decide) (eq_t rfl rfl)))))
      · have hne : ¬ nI c = nI d := fun z => g ((nI_eq (by omega) (by omega)).mp z)
        obtain ⟨X1, a1, a2, a3⟩ := xfc (n0 := n0) (q1 := 26) (most := 60) hn h1.2.2.2.1 h3 h2.2.1 hc hm (by omega) (Or.inl rfl)
        have T1 := h1.2.2.2.1.xf a3 (fun a z => by omega)
        have S1 := h3.fr a3 (fun a z y => by unfold stA at y; omega)
        obtain ⟨X2, b1, b2, b3⟩ := xfc (n0 := n0) (q1 := 27) (most := 60) hn T1 S1 h2.2.1 hd hm (by omega) (Or.inr rfl)
        have a26 : ∀ j, j ≤ min 60 (9999 - m) → gA X2 26 j = nI (hrs T.hF T.gF c m (pm c) j) := fun j hj => by
          rw [b3.gA (a := 26) (by decide) (by decide)]
          exact a2 j hj
        have e5 := xalk (n0 := n0) (last := min 60 (9999 - m)) (f := hrs T.hF T.gF c m (pm c)) (g := hrs T.hF T.gF d m (pm d)) (M := X2) (by omega) (fun j hj => ⟨hrs_le h1.2.2.2.2.1 hc (h2.2.1 c hc) (by omega), hrs_le h1.2.2.2.2.1 hd (h2.2.1 d hd) (by omega)⟩) a26 b2 n0 0 (by omega) (by omega)
        obtain ⟨Y1, c1, c2, c3⟩ := ycopyD (n0 := n0) (v := 1) (u := 0) hn (by decide) (by decide) (by decide) h5 (by omega) h4
        obtain ⟨Y2, d1, d2⟩ := yalk (n0 := n0) (b := b) (m := m) hn hc hd h2.2.1 hm n0 0 Y1 s (by omega) (by omega) (h1.2.2.2.2.1.yf c3 lP28) c2 h2.2.2 (m28f y28 c3 n28)
        exact Cal.scr h (eq_b e1 (eq_f (show ¬ (1 : Int32) = 0 by decide) (eq_b e3 (eq_f (show ¬ (1 : Int32) = 0 by decide) (eq_f hne (eq_b a1 (eq_b b1 e5))))))) (eq_b e2 (eq_f (show ¬ (1 : Int32) = 0 by decide) (eq_b e4 (eq_f (show ¬ (1 : Int32) = 0 by decide) (eq_f hne (eq_b c1 d1)))))) ((a3.wk (fun a z => by unfold scA; omega)).tr (b3.wk (fun a z => by unfold scA; omega))) (lsc (c3.tr d2))
    · exact Cal.same (r := -1) h0 (eq_b e1 (eq_f (show ¬ (1 : Int32) = 0 by decide) (eq_b e3 (eq_t rfl rfl)))) (eq_b e2 (eq_f (show ¬ (1 : Int32) = 0 by decide) (eq_b e4 (eq_t rfl rfl))))
  · exact Cal.same (r := -1) h0 (eq_b e1 (eq_t rfl rfl)) (eq_b e2 (eq_t rfl rfl))
-- when
theorem fnS_bit {du : Nat → Bool} {m nd : Nat} {s : Nat × List (Nat × Nat)} (hn : nd ≤ 6) (h : sOk nd s) (e : Nat) (he : e < 6) : ∀ d, d ≤ nd → (fnS du m s d).1 / 2 ^ e % 2 = if e < d ∧ s.1 / 2 ^ e % 2 = 0 ∧ du e = true then 1 else s.1 / 2 ^ e % 2
  | 0, _ => by rw [if_neg (fun z => by omega)]; rfl
  | d + 1, hd => by
    have ih := fnS_bit hn h e he d (by omega) (du := du) (m := m)
    have sok := fnS_ok (du := du) (m := m) hn h d (by omega)
    have s64 : (fnS du m s d).1 < 64 := Nat.lt_of_lt_of_le sok.1 (p64 hn)
    have st : fnS du m s (d + 1) = if (fnS du m s d).1 / 2 ^ d % 2 = 0 ∧ du d = true then ((fnS du m s d).1 + 2 ^ d, (fnS du m s d).2 ++ [(m, d)]) else fnS du m s d := rfl
    have idd := fnS_bit hn h d (by omega) d (by omega) (du := du) (m := m)
    rw [if_neg (fun z => by omega)] at idd
    rw [st]
    by_cases g : (fnS du m s d).1 / 2 ^ d % 2 = 0 ∧ du d = true
    · rw [if_pos g]
      show ((fnS du m s d).1 + 2 ^ d) / 2 ^ e % 2 = _
      rw [bt_at _ s64 d (by omega) g.1 e he]
      by_cases z : e = d
      · rw [if_pos z, z, if_pos ⟨by omega, by rw [← idd]; exact g.1, g.2⟩]
      · rw [if_neg z, ih]
        by_cases y : e < d ∧ s.1 / 2 ^ e % 2 = 0 ∧ du e = true
        · rw [if_pos y, if_pos ⟨by omega, y.2⟩]
        · rw [if_neg y, if_neg (fun u => y ⟨by omega, u.2⟩)]
    · rw [if_neg g, ih]
      by_cases y : e < d ∧ s.1 / 2 ^ e % 2 = 0 ∧ du e = true
      · rw [if_pos y, if_pos ⟨by omega, y.2⟩]
      · rw [if_neg y]
        by_cases z : e = d
        · subst z
          rw [if_neg (fun u => g ⟨by rw [idd]; exact u.2.1, u.2.2⟩)]
        · rw [if_neg (fun u => y ⟨by omega, u.2⟩)]
abbrev xwL (n0 : Nat) : Nat → Int32 → Int32 → Int32 → Mem → Option (Int32 × Mem) := loopN (bX11_when_50 n0) (fun _ _ _ _ => none)
theorem xwhn {n0 q d last : Nat} {T : TP} {f : Nat → Nat} {M : Mem} (hT : XT n0 q T M) (hq : gR M 1 = q) (hd : d < T.nd) (h60 : last ≤ 60) (hf : ∀ j, j ≤ last → f j ≤ 23) (h1 : ∀ j, j ≤ last → gA M 26 j = nI (f j)) : ∀ w k, k ≤ last + 1 → last + 1 < w + k → xwL n0 w (nI d) (nI last) (nI k) M = some (fst1 (fun j => decide (f j = T.dh d)) k (last + 1 - k), M)
  | 0, k, hk, hw => by omega
  | w + 1, k, hk, hw => by
    show bX11_when_50 n0 (xwL n0 w) (nI d) (nI last) (nI k) M = _
    have h6 := hT.2.1.2.2.1
    have d2 := (hT.2.1.2.2.2 d hd).2
    unfold bX11_when_50
    by_cases z : k = last + 1
    · rw [z, Nat.sub_self]
      exact eq_t (nI_lt (by omega) (by omega)) rfl
    · have ck : (nI k).toNatClampNeg = k := nI_clamp (by omega)
      have cd : (nI d).toNatClampNeg = d := nI_clamp (by omega)
      have ok : ¬ oob (nI k) 61 := nI_in (by omega) (by decide)
      have od : ¬ oob (nI d) 6 := nI_in (by omega) (by decide)
      have b1 := hf k (by omega)
      have q11 : gA M (gR M 1 + 11) (nI d).toNatClampNeg = nI (T.dh d) := by rw [hq, cd]; exact (hT.2.2.2.2 d hd).2
      have st : ¬ nI last < nI k := fun y => by have := (nI_ltI (by omega) (by omega)).mp y; omega
      rw [show last + 1 - k = (last + 1 - (k + 1)) + 1 by omega]
      show _ = some (if decide (f k = T.dh d) = true then nI k else fst1 (fun j => decide (f j = T.dh d)) (k + 1) (last + 1 - (k + 1)), M)
      by_cases y : f k = T.dh d
      · rw [if_pos (decide_eq_true y)]
        exact eq_f st (eq_f ok (eq_f od (eq_t (by rw [ck, h1 k (by omega), q11, y]) rfl)))
      · rw [if_neg (fun u => y (of_decide_eq_true u))]
        refine eq_f st (eq_f ok (eq_f od (eq_f (by rw [ck, h1 k (by omega), q11]; exact fun u => y ((nI_eq (by omega) (by omega)).mp u)) ?_)))
        rw [show nI k + 1 = nI (k + 1) from nI_add k 1]
        exact xwhn hT hq hd h60 hf h1 w (k + 1) (by omega) (by omega)
abbrev ywL (n0 : Nat) : Nat → Int32 → Int32 → Mem → Option (Int32 × Mem) := loopN (bX12_when_18 n0) (fun _ _ _ => none)
theorem ywhn {n0 b d m : Nat} {T : TP} {pm : Nat → Int32 × Nat} (hn : 1700 ≤ n0) (hd : d < T.nd) (hO : PsO T.nt T.nc pm) (hm : m ≤ 9999) : ∀ w k M (s : Nat × List (Nat × Nat)), k ≤ min 60 (9999 - m) + 1 → min 60 (9999 - m) + 1 < w + k → YT n0 b T M → LyD 1 T.nc (m + k) (trP T m pm k) s M → sOk T.nd s → gA M 28 0 = nI m → ∃ M', ywL n0 w (nI d) (nI k) M = some (if k ≤ min 60 (9999 - m) then (if s.1 / 2 ^ d % 2 = 1 then nI k else fst1 (fun j => decide (hrs T.hF T.gF (T.dc d) m (pm (T.dc d)) j = T.dh d)) (k + 1) (min 60 (9999 - m) - k)) else -1, M') ∧ YF (lP 1) M M'
  | 0, k, M, s, hk, hw, _, _, _, _ => by omega
  | w + 1, k, M, s, hk, hw, hY, hL, hs, h28 => by
    show ∃ M', bX12_when_18 n0 (ywL n0 w) (nI d) (nI k) M = _ ∧ _
    have h6 := hY.2.1.2.2.1
    have s64 : s.1 < 64 := Nat.lt_of_lt_of_le hs.1 (p64 h6)
    unfold bX12_when_18
    by_cases z : k = min 60 (9999 - m) + 1
    · rw [if_neg (by omega)]
      exact ⟨M, eq_b (yahF (lo := 0) (hi := 60) h28 hm (by decide) (by decide) (by omega) (by omega)) (eq_t rfl rfl), YF.r⟩
    · rw [if_pos (by omega)]
      have a1 := yahT (n0 := n0) (lo := 0) (hi := 60) (k := k) h28 (by omega) (by omega) (by decide) (by omega)
      have a2 : fX12_has2 n0 (gA M 31 (Int32.toNatClampNeg 1)) (nI d) M = some (bI (s.1 / 2 ^ d % 2 = 1), M) := by
        rw [show gA M 31 (Int32.toNatClampNeg 1) = nI s.1 from hL.2.1]
        exact yhas2 s64 (by omega)
      by_cases y : s.1 / 2 ^ d % 2 = 1
      · rw [if_pos y]
        exact ⟨M, eq_b a1 (eq_f (show ¬ (1 : Int32) = 0 by decide) (eq_f (by decide) (eq_b a2 (eq_f (show ¬ bI (s.1 / 2 ^ d % 2 = 1) = 0 by rw [bI_t y]; decide) rfl)))), YF.r⟩
      · rw [if_neg y]
        obtain ⟨M1, g1, g2, g3, g4⟩ := ypassD (v := 1) hn hY (by decide) hL (trP_ok hO k) hs (by omega)
        obtain ⟨M', r1, r2⟩ := ywhn hn hd hO hm w (k + 1) M1 _ (by omega) (by omega) (hY.yf g4 lP28) g2 g3 (m28f h28 g4 n28)
        have bit : (nxS T (m + k) (trP T m pm k) s).1 / 2 ^ d % 2 = 1 ↔ hrs T.hF T.gF (T.dc d) m (pm (T.dc d)) (k + 1) = T.dh d := by
          have e := fnS_bit (du := due T (nxP T (m + k) (trP T m pm k)) (m + k + 1)) (m := m + k + 1) h6 hs d (by omega) T.nd (Nat.le_refl _)
          have e2 : (nxS T (m + k) (trP T m pm k) s).1 / 2 ^ d % 2 = if d < T.nd ∧ s.1 / 2 ^ d % 2 = 0 ∧ due T (nxP T (m + k) (trP T m pm k)) (m + k + 1) d = true then 1 else s.1 / 2 ^ d % 2 := e
          rw [e2]
          by_cases u : hrs T.hF T.gF (T.dc d) m (pm (T.dc d)) (k + 1) = T.dh d
          · rw [if_pos ⟨hd, by omega, decide_eq_true u⟩]
            exact ⟨fun _ => u, fun _ => rfl⟩
          · rw [if_neg (fun v => u (of_decide_eq_true v.2.2))]
            exact ⟨fun v => absurd v y, fun v => absurd v u⟩
        refine ⟨M', eq_b a1 (eq_f (show ¬ (1 : Int32) = 0 by decide) (eq_f (by decide) (eq_b a2 (eq_t (show bI (s.1 / 2 ^ d % 2 = 1) = 0 from bI_f y) (eq_b g1 ?_))))), g4.tr r2⟩
        rw [show nI k + 1 = nI (k + 1) from nI_add k 1]
        refine r1.trans ?_
        congr 2
        by_cases v : k + 1 ≤ min 60 (9999 - m)
        · rw [if_pos v, show min 60 (9999 - m) - k = (min 60 (9999 - m) - (k + 1)) + 1 by omega]
          show _ = if decide (hrs T.hF T.gF (T.dc d) m (pm (T.dc d)) (k + 1) = T.dh d) = true then nI (k + 1) else _
          by_cases u : hrs T.hF T.gF (T.dc d) m (pm (T.dc d)) (k + 1) = T.dh d
          · rw [if_pos (bit.mpr u), if_pos (decide_eq_true u)]
          · rw [if_neg (fun x => u (bit.mp x)), if_neg (fun x => u (of_decide_eq_true x))]
        · rw [if_neg v, show min 60 (9999 - m) - k = 0 by omega]
          rfl
theorem cWhen {n0 : Nat} {x : Int32} {MX MY : Mem} (hn : 1700 ≤ n0) (h : R n0 MX MY) : Cal n0 (fX11_when n0 x MX) (fX12_when n0 x MY) := by
  have h0 := h
  obtain ⟨q, b, T, nr, C, m, pm, s, h⟩ := h
  obtain ⟨h1, h2, h3, h4, _⟩ := id h
  have hm := h2.1
  have hl := h2.2.2.l
  obtain ⟨o1, o2, o3, o4⟩ := h1.2.2.2.1.2.1
  have y28 : gA MY 28 0 = nI m := h4.1.1
  unfold fX11_when fX12_when
  rcases isDo h1 x with ⟨d, hd, rfl, e1, e2⟩ | ⟨z, e1, e2⟩
  · have cd : (nI d).toNatClampNeg = d := nI_clamp (by omega)
    have od : ¬ oob (nI d) 6 := nI_in (by omega) (by decide)
    have dn := h3.2.2.2.2.1 d hd
    have dc := (o4 d hd).1
    obtain ⟨Y1, c1, c2, c3⟩ := ycopyD (n0 := n0) (v := 1) (u := 0) hn (by decide) (by decide) (by decide) o2 (by omega) h4
    obtain ⟨Y2, d1, d2⟩ := ywhn (n0 := n0) (b := b) (m := m) hn hd h2.2.1 hm n0 0 Y1 s (by omega) (by omega) (h1.2.2.2.2.1.yf c3 lP28) c2 h2.2.2 (m28f y28 c3 n28)
    rw [if_pos (Nat.zero_le _)] at d1
    by_cases g : s.1 / 2 ^ d % 2 = 1
    · rw [if_pos g] at d1
      exact Cal.scr (r := 0) h (eq_b e1 (eq_f (show ¬ (1 : Int32) = 0 by decide) (eq_f od (eq_t (by rw [cd, dn, g]; rfl) rfl)))) (eq_b e2 (eq_f (show ¬ (1 : Int32) = 0 by decide) (eq_b c1 d1))) XF.r (lsc (c3.tr d2))
    · rw [if_neg g] at d1
      obtain ⟨X1, a1, a2, a3⟩ := xfc (n0 := n0) (q1 := 26) (most := 60) hn h1.2.2.2.1 h3 h2.2.1 dc hm (by omega) (Or.inl rfl)
      have T1 := h1.2.2.2.1.xf a3 (fun a z => by omega)
      have e5 := xwhn (n0 := n0) (last := min 60 (9999 - m)) (f := hrs T.hF T.gF (T.dc d) m (pm (T.dc d))) (M := X1) T1 (by rw [a3.1]; exact h1.2.1) hd (by omega) (fun j hj => hrs_le h1.2.2.2.2.1 dc (h2.2.1 _ dc) (by omega)) a2 n0 1 (by omega) (by omega)
      rw [Nat.add_sub_cancel] at e5
      refine Cal.scr h (eq_b e1 (eq_f (show ¬ (1 : Int32) = 0 by decide) (eq_f od (eq_f (by rw [cd, dn, show s.1 / 2 ^ d % 2 = 0 by omega]; decide) (eq_f od (eq_b (z := (nI (min 60 (9999 - m)), X1)) ?_ e5)))))) (eq_b e2 (eq_f (show ¬ (1 : Int32) = 0 by decide) (eq_b c1 d1))) (a3.wk (fun a z => by unfold scA; omega)) (lsc (c3.tr d2))
      show fX11_foresee n0 26 (gA MX (gR MX 1 + 10) (nI d).toNatClampNeg) 60 MX = _
      rw [h1.2.1, cd, (h1.2.2.2.1.2.2.2.2 d hd).1]
      exact a1
  · exact Cal.same (r := -1) h0 (eq_b e1 (eq_t rfl rfl)) (eq_b e2 (eq_t rfl rfl))
end
section
/-! EVENINGS ON BOTH SIDES -/
def stay (f : Nat → Nat) : Nat → Nat → Nat
  | k, 0 => k
  | k, r + 1 => if f (k + 1) = f 0 then stay f (k + 1) r else k
theorem stay_le (f : Nat → Nat) : ∀ r k, stay f k r ≤ k + r
  | 0, k => Nat.le_refl _
  | r + 1, k => by
    show (if f (k + 1) = f 0 then stay f (k + 1) r else k) ≤ _
    by_cases g : f (k + 1) = f 0
    · rw [if_pos g]
      have := stay_le f r (k + 1)
      omega
    · rw [if_neg g]; omega
abbrev xtL (n0 : Nat) : Nat → Int32 → Int32 → Mem → Option (Int32 × Mem) := loopN (bX11_countStaying_34 n0) (fun _ _ _ => none)
theorem xsty {n0 last : Nat} {f : Nat → Nat} {M : Mem} (h60 : last ≤ 60) (hf : ∀ j, j ≤ last → f j ≤ 23) (h1 : ∀ j, j ≤ last → gA M 26 j = nI (f j)) : ∀ w k, k ≤ last → last + 1 < w + k + 1 → xtL n0 w (nI last) (nI (k + 1)) M = some (nI (stay f k (last - k)), M)
  | 0, k, hk, hw => by omega
  | w + 1, k, hk, hw => by
    show bX11_countStaying_34 n0 (xtL n0 w) (nI last) (nI (k + 1)) M = _
    unfold bX11_countStaying_34
    by_cases z : k = last
    · rw [z, Nat.sub_self]
      exact eq_t (nI_lt (by omega) (by omega)) rfl
    · have ck : (nI (k + 1)).toNatClampNeg = k + 1 := nI_clamp (by omega)
      have ok : ¬ oob (nI (k + 1)) 61 := nI_in (by omega) (by decide)
      have b1 := hf (k + 1) (by omega)
      have b0 := hf 0 (by omega)
      have st : ¬ nI last < nI (k + 1) := fun y => by have := (nI_ltI (by omega) (by omega)).mp y; omega
      have h0 : gA M 26 (Int32.toNatClampNeg 0) = nI (f 0) := h1 0 (by omega)
      rw [show last - k = (last - (k + 1)) + 1 by omega]
      show _ = some (nI (if f (k + 1) = f 0 then stay f (k + 1) (last - (k + 1)) else k), M)
      by_cases y : f (k + 1) = f 0
      · rw [if_pos y]
        refine eq_f st (eq_f ok (eq_f (by decide) (eq_t (by rw [ck, h1 _ (by omega), h0, y]) ?_)))
        rw [show nI (k + 1) + 1 = nI (k + 1 + 1) from nI_add (k + 1) 1]
        exact xsty h60 hf h1 w (k + 1) (by omega) (by omega)
      · rw [if_neg y]
        exact eq_f st (eq_f ok (eq_f (by decide) (eq_f (by rw [ck, h1 _ (by omega), h0]; exact fun u => y ((nI_eq (by omega) (by omega)).mp u)) (by rw [nIs]))))
theorem xcs {n0 q c m : Nat} {t : Int32} {T : TP} {pm : Nat → Int32 × Nat} {s : Nat × List (Nat × Nat)} {M : Mem} (hn : 1700 ≤ n0) (hT : XT n0 q T M) (hS : SX q T.nc T.nd m pm s M) (hc : c < T.nc) (ht : tOk T.nt t) (hm : m ≤ 9999) (hf : ∀ j, j ≤ min 60 (9999 - m) → hrs T.hF T.gF c m (t, 0) j ≤ 23) : ∃ M', fX11_countStaying n0 (nI c) t M = some (nI (stay (hrs T.hF T.gF c m (t, 0)) 0 (min 60 (9999 - m))), M') ∧ XF (fun a => a = 26) M M' := by
  have h5 := hT.2.1.2.1
  have f1 : XF (fun a => a = 26) M (hld M (nI c) t (nI 0) (nI m)) := hld_f
  obtain ⟨M2, e1, e2, e3⟩ := xfor (n0 := n0) (q1 := 26) (most := 60) hn (hT.1.xf f1 (fun a z => by omega)) (hld_p (h := 0) hS.1) (by omega) ⟨ht, Nat.zero_le _⟩ hm (by decide) (Or.inl rfl)
  refine ⟨M2, ?_, f1.tr e3⟩
  unfold fX11_countStaying
  rw [hS.2.2.1]
  exact eq_b (z := hld M (nI c) t (nI 0) (nI m)) xhold (eq_b e1 (xsty (by omega) hf e2 n0 0 (by omega) (by omega)))
theorem pmu {T : TP} {m c : Nat} {pm : Nat → Int32 × Nat} {v : Int32 × Nat} {k : Nat} : trP T m (upP pm c v) k c = tr T.gF c m v k := by
  show tr T.gF c m (if c = c then v else pm c) k = _
  rw [if_pos rfl]
abbrev yvL (n0 : Nat) (k27 : Int32 → Int32 → Int32 → Int32 → Int32 → Mem → Option (Int32 × Mem)) : Nat → Int32 → Int32 → Int32 → Int32 → Int32 → Int32 → Int32 → Int32 → Int32 → Mem → Option (Int32 × Mem) := loopN (bX12_evening_72 n0 k27) (fun _ _ _ _ _ _ _ _ _ _ => none)
theorem ysty {n0 b c m : Nat} {T : TP} {pm : Nat → Int32 × Nat} {v : Int32 × Nat} {s : Nat × List (Nat × Nat)} {k27 : Int32 → Int32 → Int32 → Int32 → Int32 → Mem → Option (Int32 × Mem)} {x2 x3 x4 x5 : Int32} (hn : 1700 ≤ n0) (hc : c < T.nc) (hO : PsO T.nt T.nc (upP pm c v)) (hs : sOk T.nd s) (hm : m ≤ 9999) (hf : ∀ j, j ≤ min 60 (9999 - m) → hrs T.hF T.gF c m v j ≤ 23) : ∀ w k M, k ≤ min 60 (9999 - m) → min 60 (9999 - m) + 2 < w + k + 1 → YT n0 b T M → LyD 1 T.nc (m + k) (trP T m (upP pm c v) k) s M → gA M 28 0 = nI m → ∃ M', yvL n0 k27 w (nI c) x2 x3 x4 x5 (nI (hrs T.hF T.gF c m v 0)) (nI k) 1 (nI (k + 1)) M = fX12_evening_132 n0 k27 (nI c) x2 x3 x4 x5 (nI (stay (hrs T.hF T.gF c m v) k (min 60 (9999 - m) - k))) M' ∧ YF (lP 1) M M'
  | 0, k, M, hk, hw, _, _, _ => by omega
  | w + 1, k, M, hk, hw, hY, hL, h28 => by
    show ∃ M', bX12_evening_72 n0 k27 (yvL n0 k27 w) (nI c) x2 x3 x4 x5 (nI (hrs T.hF T.gF c m v 0)) (nI k) 1 (nI (k + 1)) M = _ ∧ _
    unfold bX12_evening_72
    by_cases z : k = min 60 (9999 - m)
    · rw [← z, Nat.sub_self]
      exact ⟨M, eq_b (yahF (lo := 1) (hi := 60) h28 hm (by decide) (by decide) (by omega) (by omega)) (eq_t rfl rfl), YF.r⟩
    · have a1 := yahT (n0 := n0) (lo := 1) (hi := 60) (k := k + 1) h28 (by omega) (by omega) (by decide) (by omega)
      obtain ⟨M1, g1, g2, g3⟩ := ytickD (v := 1) hn hY (by decide) hL (trP_ok hO k) hs (by omega)
      obtain ⟨l1, M2, e1, e2⟩ := yhr (hY.yf g3 lP28) (v := 1) (by decide) g2.1 (trP_ok hO (k + 1)) (by omega) hc
      have ev : T.hF c (trP T m (upP pm c v) (k + 1) c).1 (trP T m (upP pm c v) (k + 1) c).2 (m + k + 1) = hrs T.hF T.gF c m v (k + 1) := by rw [pmu]; rfl
      rw [show (nxP T (m + k) (trP T m (upP pm c v) k)) = trP T m (upP pm c v) (k + 1) from rfl, ev] at e1
      have f2 : YF (lP 1) M M2 := g3.tr e2.y
      have h5 := hY.2.1.2.1
      have hl := hs.l
      have L2 : LyD 1 T.nc (m + (k + 1)) (trP T m (upP pm c v) (k + 1)) s M2 := LyD.fr (P := fun _ _ => False) g2 e2.y h5 (by omega) (fun _ _ z => z.elim)
      have b1 := hf (k + 1) (by omega)
      have b0 := hf 0 (by omega)
      have k1 : nI (k + 1) + 1 = nI (k + 1 + 1) := nI_add (k + 1) 1
      rw [show min 60 (9999 - m) - k = (min 60 (9999 - m) - (k + 1)) + 1 by omega]
      show ∃ M', _ = fX12_evening_132 n0 k27 (nI c) x2 x3 x4 x5 (nI (if hrs T.hF T.gF c m v (k + 1) = hrs T.hF T.gF c m v 0 then stay (hrs T.hF T.gF c m v) (k + 1) (min 60 (9999 - m) - (k + 1)) else k)) M' ∧ _
      by_cases y : hrs T.hF T.gF c m v (k + 1) = hrs T.hF T.gF c m v 0
      · rw [if_pos y]
        obtain ⟨M', r1, r2⟩ := ysty (k27 := k27) (x2 := x2) (x3 := x3) (x4 := x4) (x5 := x5) hn hc hO hs hm hf w (k + 1) M2 (by omega) (by omega) (hY.yf f2 lP28) L2 (m28f h28 f2 n28)
        refine ⟨M', eq_b a1 (eq_f (show ¬ (1 : Int32) = 0 by decide) (eq_f (by decide) (eq_b g1 (eq_b e1 (eq_t (congrArg nI y) ?_))))), f2.tr r2⟩
        unfold fX12_evening_110 fX12_evening_124
        rw [k1]
        exact eq_f (by decide) r1
      · rw [if_neg y]
        refine ⟨M2, eq_b a1 (eq_f (show ¬ (1 : Int32) = 0 by decide) (eq_f (by decide) (eq_b g1 (eq_b e1 (eq_f (fun u => y ((nI_eq (by omega) (by omega)).mp u)) ?_))))), f2⟩
        unfold fX12_evening_110 fX12_evening_124
        rw [k1]
        refine eq_t rfl ?_
        obtain ⟨w', rfl⟩ : ∃ w', w = w' + 1 := ⟨w - 1, by omega⟩
        show bX12_evening_72 n0 k27 (yvL n0 k27 w') (nI c) x2 x3 x4 x5 (nI (hrs T.hF T.gF c m v 0)) (nI k) 0 (nI (k + 1 + 1)) M2 = _
        unfold bX12_evening_72
        by_cases u : k + 1 + 1 ≤ 60 ∧ m + (k + 1 + 1) ≤ 9999
        · exact eq_b (yahT (lo := 1) (hi := 60) (m28f h28 f2 n28) (by omega) u.1 (by decide) u.2) (eq_f (show ¬ (1 : Int32) = 0 by decide) (eq_t rfl rfl))
        · exact eq_b (yahF (lo := 1) (hi := 60) (m28f h28 f2 n28) hm (by decide) (by decide) (by omega) u) (eq_t rfl rfl)
/-- a thing put into a palm of the layer that is tried -/
theorem yput1 {n0 nc m c : Nat} {t : Int32} {pm : Nat → Int32 × Nat} {s : Nat × List (Nat × Nat)} {M : Mem} (hL : LyD 1 nc m pm s M) (h5 : nc ≤ 5) (hc : c < nc) : ∃ M', fX12_puts n0 1 (nI c) t M = some M' ∧ LyD 1 nc m (upP pm c (t, 0)) s M' ∧ YF (lP 1) M M' := by
  refine ⟨_, yputs (v := 1) (by decide) (by omega), ⟨⟨by rw [gA_sA_ne (by decide), gA_sA_ne (by decide)]; exact hL.1.1, fun j hj => ?_⟩, by rw [gA_sA_ne (by decide), gA_sA_ne (by decide)]; exact hL.2.1, by rw [gA_sA_ne (by decide), gA_sA_ne (by decide)]; exact hL.2.2.1, fun i p hp => by rw [gA_sA_ne (by decide), gA_sA_ne (by decide)]; exact hL.2.2.2 i p hp⟩, (YF.r.a (by unfold lP tP; omega)).a (by unfold lP tP; omega)⟩
  rw [gA_sA_ne (by decide), gA_sA, if_pos rfl, gA_sA, if_pos rfl, gA_sA_ne (by decide)]
  unfold upP
  by_cases g : j = c
  · rw [if_pos (show 5 * 1 + j = 5 * 1 + c by omega), if_pos g, if_pos (show 5 * 1 + j = 5 * 1 + c by omega)]; exact ⟨rfl, rfl⟩
  · rw [if_neg (show ¬ 5 * 1 + j = 5 * 1 + c by omega), if_neg g, if_neg (show ¬ 5 * 1 + j = 5 * 1 + c by omega)]; exact hL.1.2 j hj
theorem upP_ok {nt nc c : Nat} {pm : Nat → Int32 × Nat} {v : Int32 × Nat} (h : PsO nt nc pm) (hv : pOk nt v) : PsO nt nc (upP pm c v) := fun j hj => by
  unfold upP
  by_cases g : j = c
  · rw [if_pos g]; exact hv
  · rw [if_neg g]; exact h j hj
theorem upP_at {c : Nat} {pm : Nat → Int32 × Nat} {v : Int32 × Nat} : upP pm c v c = v := if_pos rfl
abbrev xeL (n0 : Nat) : Nat → Int32 → Int32 → Int32 → Int32 → Int32 → Mem → Option (Int32 × Mem) := loopN (bX11_evening_40 n0) (fun _ _ _ _ _ _ => none)
abbrev yeL (n0 : Nat) : Nat → Int32 → Int32 → Int32 → Int32 → Int32 → Mem → Option (Int32 × Mem) := loopN (bX12_evening_27 n0) (fun _ _ _ _ _ _ => none)
theorem evnL {n0 q b : Nat} {T : TP} {nr C m c : Nat} {pm : Nat → Int32 × Nat} {s : Nat × List (Nat × Nat)} {x2 : Int32} (hn : 1700 ≤ n0) (hc : c < T.nc) : ∀ w t (bX bY mo : Int32) (MX MY : Mem), t ≤ T.nt → T.nt < w + t → RR n0 q b T nr C m pm s MX MY → ((t = 0 ∧ mo = -1) ∨ (0 < t ∧ bX = bY ∧ ∃ k, k ≤ 60 ∧ mo = nI k)) → 0 < T.nt → ∃ r MX' MY', xeL n0 w (nI c) x2 bX mo (nI t) MX = some (r, MX') ∧ yeL n0 w (nI c) x2 bY mo (nI t) MY = some (r, MY') ∧ R n0 MX' MY'
  | 0, t, _, _, _, _, _, ht, hw, _, _, _ => by omega
  | w + 1, t, bX, bY, mo, MX, MY, ht, hw, h, hi, h0 => by
    show ∃ r MX' MY', bX11_evening_40 n0 (xeL n0 w) (nI c) x2 bX mo (nI t) MX = _ ∧ bX12_evening_27 n0 (yeL n0 w) (nI c) x2 bY mo (nI t) MY = _ ∧ _
    obtain ⟨h1, h2, h3, h4, _⟩ := id h
    obtain ⟨o1, o2, o3, _⟩ := h1.2.2.2.1.2.1
    have hb := h1.2.2.2.2.1.2.2.1
    have hm := h2.1
    have hl := h2.2.2.l
    have h13 := h1.2.2.2.2.1.2.2.2.1
    have xq : gI MX (128 * gR MX 1 + 1) = nI T.nt := by rw [h1.2.1]; exact h1.2.2.2.1.1.2.2.1
    have yq : gA MY 2 (gI MY 13).toNatClampNeg = nI T.nt := by rw [h13, nI_clamp (by omega)]; exact h1.2.2.2.2.1.2.2.2.2.1
    have o13 : ¬ oob (gI MY 13) 2 := by rw [h13]; exact nI_in (by omega) (by decide)
    unfold bX11_evening_40 bX12_evening_27
    by_cases g : t = T.nt
    · rcases hi with ⟨z, _⟩ | ⟨_, rfl, _⟩
      · omega
      · subst g
        by_cases z : x2 = 0
        · exact ⟨bX, MX, MY, eq_t (by rw [xq]; exact Int32.le_refl _) (eq_t z rfl), eq_f o13 (eq_t (by rw [yq]; exact Int32.le_refl _) (eq_t z rfl)), q, b, T, nr, C, m, pm, s, h⟩
        · exact ⟨mo, MX, MY, eq_t (by rw [xq]; exact Int32.le_refl _) (eq_f z rfl), eq_f o13 (eq_t (by rw [yq]; exact Int32.le_refl _) (eq_f z rfl)), q, b, T, nr, C, m, pm, s, h⟩
    · have tO : tOk T.nt (nI t) := Or.inr ⟨t, by omega, rfl⟩
      have vO : pOk T.nt (nI t, 0) := ⟨tO, Nat.zero_le _⟩
      have hf : ∀ j, j ≤ min 60 (9999 - m) → hrs T.hF T.gF c m (nI t, 0) j ≤ 23 := fun j hj => hrs_le h1.2.2.2.2.1 hc vO (by omega)
      obtain ⟨X1, a1, a2⟩ := xcs (n0 := n0) hn h1.2.2.2.1 h3 hc tO hm hf
      obtain ⟨Y1, b1, b2, b3⟩ := ycopyD (n0 := n0) (v := 1) (u := 0) hn (by decide) (by decide) (by decide) o2 (by omega) h4
      obtain ⟨Y2, c1, c2, c3⟩ := yput1 (n0 := n0) (t := nI t) b2 o2 hc
      have f2 := b3.tr c3
      have YT2 := h1.2.2.2.2.1.yf f2 lP28
      have PO := upP_ok (c := c) h2.2.1 vO
      obtain ⟨_, Y3, d1, d2⟩ := yhr YT2 (v := 1) (by decide) c2.1 PO (by omega) hc
      rw [upP_at] at d1
      have f3 : YF (lP 1) MY Y3 := f2.tr d2.y
      have L3 : LyD 1 T.nc (m + 0) (trP T m (upP pm c (nI t, 0)) 0) s Y3 := LyD.fr (P := fun _ _ => False) c2 d2.y o2 (by omega) (fun _ _ z => z.elim)
      obtain ⟨Y4, e1, e2⟩ := ysty (n0 := n0) (k27 := yeL n0 w) (x2 := x2) (x3 := bY) (x4 := mo) (x5 := nI t) hn hc PO h2.2.2 hm hf n0 0 Y3 (by omega) (by omega) (h1.2.2.2.2.1.yf f3 lP28) L3 (m28f h4.1.1 f3 n28)
      rw [Nat.sub_zero] at e1
      have sl := stay_le (hrs T.hF T.gF c m (nI t, 0)) (min 60 (9999 - m)) 0
      have RR2 := h.scr (a2.wk (fun a z => by unfold scA; omega)) (lsc (f3.tr e2))
      have t1 : nI t + 1 = nI (t + 1) := nI_add t 1
      have xst : ∀ r, (if nI (stay (hrs T.hF T.gF c m (nI t, 0)) 0 (min 60 (9999 - m))) ≤ mo then fX11_evening_75 n0 (xeL n0 w) (nI c) x2 bX mo (nI t) X1 else fX11_evening_75 n0 (xeL n0 w) (nI c) x2 (nI t) (nI (stay (hrs T.hF T.gF c m (nI t, 0)) 0 (min 60 (9999 - m)))) (nI t) X1) = r → bX11_evening_40 n0 (xeL n0 w) (nI c) x2 bX mo (nI t) MX = r := fun r hr => by
        unfold bX11_evening_40
        exact eq_f (by rw [xq]; exact nI_ge (by omega) (by omega)) (eq_b a1 hr)
      have yst : ∀ r, fX12_evening_132 n0 (yeL n0 w) (nI c) x2 bY mo (nI t) (nI (stay (hrs T.hF T.gF c m (nI t, 0)) 0 (min 60 (9999 - m)))) Y4 = r → bX12_evening_27 n0 (yeL n0 w) (nI c) x2 bY mo (nI t) MY = r := fun r hr => by
        unfold bX12_evening_27
        refine eq_f o13 (eq_f (by rw [yq]; exact nI_ge (by omega) (by omega)) (eq_b b1 (eq_b c1 (eq_b d1 (Eq.trans e1 hr)))))
      have fin : ∀ bX' bY' mo', (0 < t + 1 ∧ bX' = bY' ∧ ∃ k, k ≤ 60 ∧ mo' = nI k) → fX11_evening_75 n0 (xeL n0 w) (nI c) x2 bX' mo' (nI t) X1 = xeL n0 w (nI c) x2 bX' mo' (nI (t + 1)) X1 ∧ fX12_evening_149 n0 (yeL n0 w) (nI c) x2 bY' mo' (nI t) Y4 = yeL n0 w (nI c) x2 bY' mo' (nI (t + 1)) Y4 ∧ ∃ r MX' MY', xeL n0 w (nI c) x2 bX' mo' (nI (t + 1)) X1 = some (r, MX') ∧ yeL n0 w (nI c) x2 bY' mo' (nI (t + 1)) Y4 = some (r, MY') ∧ R n0 MX' MY' := fun bX' bY' mo' hi' => by
        refine ⟨by unfold fX11_evening_75; rw [t1], by unfold fX12_evening_149; rw [t1], ?_⟩
        exact evnL hn hc w (t + 1) bX' bY' mo' X1 Y4 (by omega) (by omega) RR2 (Or.inr hi') h0
      by_cases u : mo < nI (stay (hrs T.hF T.gF c m (nI t, 0)) 0 (min 60 (9999 - m)))
      · obtain ⟨p1, p2, r, MX', MY', p3, p4, p5⟩ := fin (nI t) (nI t) (nI (stay (hrs T.hF T.gF c m (nI t, 0)) 0 (min 60 (9999 - m)))) ⟨by omega, rfl, _, by omega, rfl⟩
        refine ⟨r, MX', MY', xst _ (eq_f (Int32.not_le.mpr u) (p1.trans p3)), yst _ ?_, p5⟩
        unfold fX12_evening_132
        exact eq_t u (p2.trans p4)
      · rcases hi with ⟨_, z⟩ | hi
        · exact absurd (by rw [z, i_lt, nI_toInt (by omega), show (-1 : Int32).toInt = -1 from rfl]; omega) u
        · obtain ⟨p1, p2, r, MX', MY', p3, p4, p5⟩ := fin bX bY mo ⟨by omega, hi.2⟩
          refine ⟨r, MX', MY', xst _ (eq_t (Int32.not_lt.mp u) (p1.trans p3)), yst _ ?_, p5⟩
          unfold fX12_evening_132
          exact eq_f u (p2.trans p4)
theorem cEvening {n0 : Nat} {x y : Int32} {MX MY : Mem} (hn : 1700 ≤ n0) (h : R n0 MX MY) : Cal n0 (fX11_evening n0 x y MX) (fX12_evening n0 x y MY) := by
  have h0 := h
  obtain ⟨q, b, T, nr, C, m, pm, s, h⟩ := h
  obtain ⟨h1, h2, h3, h4, _⟩ := id h
  obtain ⟨o1, o2, o3, _⟩ := h1.2.2.2.1.2.1
  have xq : gI MX (128 * gR MX 1 + 1) = nI T.nt := by rw [h1.2.1]; exact h1.2.2.2.1.1.2.2.1
  unfold fX11_evening fX12_evening
  rcases isCo h1 x with ⟨c, hc, rfl, e1, e2⟩ | ⟨z, e1, e2⟩
  · rcases yisc (n0 := n0) 2 (x := y) (hi := 1) (by decide) (by decide) with ⟨k, hk, rfl, e⟩ | ⟨z, e⟩
    · by_cases g : T.nt = 0
      · refine Cal.same (r := -1) h0 (eq_b e1 (eq_f (show ¬ (1 : Int32) = 0 by decide) (eq_t (show gI MX (128 * gR MX 1 + 1) = 0 by rw [xq, g]; rfl) rfl))) (eq_b e2 (eq_f (show ¬ (1 : Int32) = 0 by decide) (eq_b (e MY) (eq_f (show ¬ (1 : Int32) = 0 by decide) ?_))))
        have hb := h1.2.2.2.2.1.2.2.1
        have h13 := h1.2.2.2.2.1.2.2.2.1
        have yq : gA MY 2 (gI MY 13).toNatClampNeg = nI T.nt := by rw [h13, nI_clamp (by omega)]; exact h1.2.2.2.2.1.2.2.2.2.1
        have o13 : ¬ oob (gI MY 13) 2 := by rw [h13]; exact nI_in (by omega) (by decide)
        obtain ⟨w, rfl⟩ : ∃ w, n0 = w + 1 := ⟨n0 - 1, by omega⟩
        show bX12_evening_27 (w + 1) (yeL (w + 1) w) (nI c) (nI k) (-1) (-1) 0 MY = _
        unfold bX12_evening_27
        refine eq_f o13 (eq_t (by rw [yq, g]; decide) ?_)
        by_cases z : nI k = 0
        · exact eq_t z rfl
        · exact eq_f z rfl
      · obtain ⟨r, MX', MY', p3, p4, p5⟩ := evnL (n0 := n0) (x2 := nI k) hn hc n0 0 0 (-1) (-1) MX MY (by omega) (by omega) h (Or.inl ⟨rfl, rfl⟩) (by omega)
        exact ⟨r, MX', MY', eq_b e1 (eq_f (show ¬ (1 : Int32) = 0 by decide) (eq_f (show ¬ gI MX (128 * gR MX 1 + 1) = 0 by rw [xq]; exact nI_ne0 (by omega) (by omega)) (eq_f (nI_nn (by omega)) (eq_t (nI_le (b := 1) (by omega) (by decide)) p3)))), eq_b e2 (eq_f (show ¬ (1 : Int32) = 0 by decide) (eq_b (e MY) (eq_f (show ¬ (1 : Int32) = 0 by decide) p4))), p5⟩
    · refine Cal.same (r := -1) h0 (eq_b e1 (eq_f (show ¬ (1 : Int32) = 0 by decide) ?_)) (eq_b e2 (eq_f (show ¬ (1 : Int32) = 0 by decide) (eq_b (e MY) (eq_t rfl rfl))))
      by_cases g : gI MX (128 * gR MX 1 + 1) = 0
      · exact eq_t g rfl
      · by_cases g2 : y < 0
        · exact eq_f g (eq_t g2 rfl)
        · refine eq_f g (eq_f g2 (eq_f (fun u => ?_) rfl))
          have z2 := z.resolve_left g2
          rw [i_le] at z2 u
          have a1 : (nI 2).toInt = 2 := rfl
          have a2 : (1 : Int32).toInt = 1 := rfl
          omega
  · exact Cal.same (r := -1) h0 (eq_b e1 (eq_t rfl rfl)) (eq_b e2 (eq_t rfl rfl))
end
