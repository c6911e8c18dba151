/-! AN IMAGE ON BOTH SIDES -/
theorem shr8 {n : Nat} (h : n < 2 ^ 31) : nI n >>> ((8 : Int32) &&& 31) = nI (n / 256) := pk_shrN h _ 8 (by decide)
theorem and255 (n : Nat) : nI n &&& 255 = nI (n % 256) := by
  rw [show (255 : Int32) = nI 255 from rfl, nAnd, show 255 = 2 ^ 8 - 1 from rfl, Nat.and_two_pow_sub_one_eq_mod]
def ckN (bv : Nat → Nat) : Nat → Nat
  | 0 => 227
  | k + 1 => (5 * ckN bv k + bv k) % 251
theorem ckN_lt (bv : Nat → Nat) : ∀ k, ckN bv k < 251
  | 0 => (by decide : 227 < 251)
  | k + 1 => Nat.mod_lt _ (by decide)
theorem ck1 {bv : Nat → Nat} {k : Nat} (h : bv k < 256) : rem32 ((5 : Int32) * nI (ckN bv k) + nI (bv k)) 251 = nI (ckN bv (k + 1)) := by
  have := ckN_lt bv k
  rw [show (5 : Int32) = nI 5 from rfl, nI_mul, nI_add, show (251 : Int32) = nI 251 from rfl, rem_nI (by omega) (by decide)]
  rfl
theorem xck {n0 q0 n : Nat} {bv : Nat → Nat} {M : Mem} (hl : n ≤ LX.ln q0) (hl2 : LX.ln q0 ≤ 1600) (hb : ∀ j, j < n → gA M q0 j = nI (bv j) ∧ bv j < 256) : ∀ w k, k ≤ n → n < w + k → loopN (bX6_checkOf_6 n0 q0) (fun _ _ _ _ => none) w (nI n) (nI (ckN bv k)) (nI k) M = some (nI (ckN bv n), M)
  | 0, k, hk, hw => by omega
  | w + 1, k, hk, hw => by
    show bX6_checkOf_6 n0 q0 (loopN (bX6_checkOf_6 n0 q0) (fun _ _ _ _ => none) w) (nI n) (nI (ckN bv k)) (nI k) M = _
    unfold bX6_checkOf_6
    by_cases g : k = n
    · rw [g]
      exact eq_t (Int32.le_refl _) rfl
    · have ck : (nI k).toNatClampNeg = k := nI_clamp (by omega)
      refine eq_f (nI_ge (by omega) (by omega)) (eq_f (nI_ge (b := LX.ln q0) (by omega) (by omega)) (eq_f (nI_in (by omega) (by omega)) (eq_f (by decide) (eq_e (v' := nI (ckN bv (k + 1))) ?_ ?_))))
      · rw [ck, (hb k (by omega)).1, ck1 (hb k (by omega)).2]
      · rw [show nI k + 1 = nI (k + 1) from nI_add k 1]
        exact xck (n0 := n0) hl hl2 hb w (k + 1) (by omega) (by omega)
def ImR (n : Nat) (MX MY : Mem) : Prop := gI MY 67 = nI n ∧ ∀ k, k < n → ∃ v, v < 256 ∧ gA MX 29 k = nI v ∧ gA MY 43 k = nI v
def XIm (M M' : Mem) : Prop := gR M' = gR M ∧ gL M' = gL M ∧ gB M' = gB M ∧ gI M' = gI M ∧ ∀ a, ¬ a = 29 → gA M' a = gA M a
def YIm (M M' : Mem) : Prop := gR M' = gR M ∧ gL M' = gL M ∧ gB M' = gB M ∧ (∀ k, ¬ k = 67 → gI M' k = gI M k) ∧ ∀ a, ¬ a = 43 → gA M' a = gA M a
theorem XIm.r {M : Mem} : XIm M M := ⟨rfl, rfl, rfl, rfl, fun _ _ => rfl⟩
theorem XIm.tr {M M' M2 : Mem} (h : XIm M M') (g : XIm M' M2) : XIm M M2 := ⟨g.1.trans h.1, g.2.1.trans h.2.1, g.2.2.1.trans h.2.2.1, g.2.2.2.1.trans h.2.2.2.1, fun a z => (g.2.2.2.2 a z).trans (h.2.2.2.2 a z)⟩
theorem XIm.a {M M' : Mem} {i : Nat} {v : Int32} (h : XIm M M') : XIm M (sA M' 29 i v) := ⟨h.1, h.2.1, h.2.2.1, h.2.2.2.1, fun a z => (gA_sA_ne z).trans (h.2.2.2.2 a z)⟩
theorem YIm.r {M : Mem} : YIm M M := ⟨rfl, rfl, rfl, fun _ _ => rfl, fun _ _ => rfl⟩
theorem YIm.tr {M M' M2 : Mem} (h : YIm M M') (g : YIm M' M2) : YIm M M2 := ⟨g.1.trans h.1, g.2.1.trans h.2.1, g.2.2.1.trans h.2.2.1, fun a z => (g.2.2.2.1 a z).trans (h.2.2.2.1 a z), fun a z => (g.2.2.2.2 a z).trans (h.2.2.2.2 a z)⟩
theorem imp {n0 n v : Nat} {x : Int32} {M N : Mem} (h : ImR n M N) (hn : n < 24) (hv : v < 256) (hx : x &&& 255 = nI v) : ∃ N', fX12_writes n0 x N = some N' ∧ ImR (n + 1) (sA M 29 n (nI v)) N' ∧ YIm N N' := by
  have cn : (nI n).toNatClampNeg = n := nI_clamp (by omega)
  refine ⟨sI (sA N 43 n (nI v)) 67 (nI (n + 1)), ?_, ⟨gI_at, fun k hk => ?_⟩, ⟨rfl, rfl, rfl, fun k z => gI_ne z, fun a z => gA_sA_ne z⟩⟩
  · unfold fX12_writes
    refine eq_f (by rw [h.1]; exact nI_in (by omega) (by decide)) (eq_e (v' := sA N 43 n (nI v)) (by rw [h.1, cn, hx]) ?_)
    rw [gI_sA, h.1, show nI n + 1 = nI (n + 1) from nI_add n 1]
  · show ∃ v', v' < 256 ∧ gA (sA M 29 n (nI v)) 29 k = nI v' ∧ gA (sA N 43 n (nI v)) 43 k = nI v'
    rw [gA_sA, if_pos rfl, gA_sA, if_pos rfl]
    by_cases z : k = n
    · rw [if_pos z, if_pos z]
      exact ⟨v, hv, rfl, rfl⟩
    · rw [if_neg z, if_neg z]
      exact h.2 k (by omega)
theorem ln29 : LX.ln 29 = 24 := rfl
theorem ImR.wr {n v : Nat} {M N : Mem} (h : ImR n M N) {k : Nat} (hk : n ≤ k) (w : Int32) : ImR n (sA M 29 k w) N := ⟨h.1, fun j hj => by
  rw [gA_sA, if_pos rfl, if_neg (by omega)]
  exact h.2 j hj⟩
abbrev xiL (n0 : Nat) : Nat → Int32 → Int32 → Mem → Option (Int32 × Mem) := loopN (bX6_writeImage_36 n0 29) (fun _ _ _ => none)
abbrev yiL (n0 : Nat) : Nat → Int32 → Mem → Option (Int32 × Mem) := loopN (bX12_image_30 n0) (fun _ _ => none)
theorem thb {nt : Nat} {t : Int32} (h : tOk nt t) (hn : nt ≤ 6) : ∃ v, v < 256 ∧ t &&& 255 = nI v ∧ ((t = -1 ∧ v = 255) ∨ (¬ t = -1 ∧ t = nI v)) := by
  rcases h with h | ⟨k, hk, h⟩
  · exact ⟨255, by decide, by rw [h]; decide, Or.inl ⟨h, rfl⟩⟩
  · refine ⟨k, by omega, by rw [h, and255, Nat.mod_eq_of_lt (by omega)], Or.inr ⟨?_, h⟩⟩
    rw [h]
    exact nI_m1 (by omega)
theorem imC {n0 q b m : Nat} {T : TP} {pm : Nat → Int32 × Nat} {s : Nat × List (Nat × Nat)} {MX MY : Mem} {x2 : Int32} (hT : XT n0 q T MX) (hY : YT n0 b T MY) (hS : SX q T.nc T.nd m pm s MX) (hL : LyD 0 T.nc m pm s MY) (hO : PsO T.nt T.nc pm) : ∀ w c M N, c ≤ T.nc → T.nc < w + c → ImR (2 + 3 * c) M N → XIm MX M → YIm MY N → ∃ M' N', xiL n0 w x2 (nI c) M = fX6_writeImage_119 n0 29 x2 0 M' ∧ yiL n0 w (nI c) N = fX12_image_84 n0 0 N' ∧ ImR (2 + 3 * T.nc) M' N' ∧ XIm MX M' ∧ YIm MY N'
  | 0, c, M, N, hc, hw, _, _, _ => by omega
  | w + 1, c, M, N, hc, hw, hI, hx, hy => by
    show ∃ M' N', bX6_writeImage_36 n0 29 (xiL n0 w) x2 (nI c) M = _ ∧ bX12_image_30 n0 (yiL n0 w) (nI c) N = _ ∧ _
    obtain ⟨o1, o2, o3, _⟩ := hT.2.1
    have hb := hY.2.2.1
    have q5 : gI M (128 * gR M 1280 + 5) = nI T.nc := by rw [hx.1, hS.2.1, hx.2.2.2.1]; exact hT.2.2.1
    have i13 : gI N 13 = nI b := (hy.2.2.2.1 13 (by decide)).trans hY.2.2.2.1
    have o13 : ¬ oob (gI N 13) 2 := by rw [i13]; exact nI_in (by omega) (by decide)
    have y5 : gA N 5 (gI N 13).toNatClampNeg = nI T.nc := by rw [i13, nI_clamp (by omega), hy.2.2.2.2 5 (by decide)]; exact hY.2.2.2.2.2.1
    unfold bX6_writeImage_36 bX12_image_30
    by_cases g : c = T.nc
    · subst g
      exact ⟨M, N, eq_t (by rw [q5]; exact Int32.le_refl _) rfl, eq_f o13 (eq_t (by rw [y5]; exact Int32.le_refl _) rfl), hI, hx, hy⟩
    · have hcn : c < T.nc := by omega
      have cc : (nI c).toNatClampNeg = c := nI_clamp (by omega)
      have px := hS.2.2.2.1 c hcn
      have py := hL.1.2 c hcn
      rw [show 5 * 0 + c = c by omega] at py
      have ok := hO c hcn
      have ok2 := ok.2
      obtain ⟨v, v1, v2, v3⟩ := thb ok.1 o1
      obtain ⟨N1, a1, a2, a3⟩ := imp (n0 := n0) hI (by omega) v1 v2
      obtain ⟨N2, b1, b2, b3⟩ := imp (n0 := n0) (v := (pm c).2 / 256) (x := nI (pm c).2 >>> ((8 : Int32) &&& 31)) a2 (by omega) (by omega) (by rw [shr8 (by omega), and255, Nat.mod_eq_of_lt (by omega)])
      obtain ⟨N3, c1, c2, c3⟩ := imp (n0 := n0) (v := (pm c).2 % 256) (x := nI (pm c).2) b2 (by omega) (by omega) (and255 _)
      have fy := hy.tr (a3.tr (b3.tr c3))
      have fx := ((hx.a (i := 2 + 3 * c) (v := nI v)).a (i := 2 + 3 * c + 1) (v := nI ((pm c).2 / 256))).a (i := 2 + 3 * c + 1 + 1) (v := nI ((pm c).2 % 256))
      obtain ⟨M', N', r1, r2, r3, r4, r5⟩ := imC (x2 := x2) hT hY hS hL hO w (c + 1) _ N3 (by omega) (by omega) (show ImR (2 + 3 * (c + 1)) _ _ from c2) fx fy
      have k1 : nI c + 1 = nI (c + 1) := nI_add c 1
      have ix : (2 : Int32) + 3 * nI c = nI (2 + 3 * c) := by rw [n3, show (2 : Int32) = nI 2 from rfl, nI_add]
      have x79 : ∀ M0 : Mem, M0 = M → fX6_writeImage_79 n0 29 (xiL n0 w) x2 (nI c) (nI (2 + 3 * c)) (nI (2 + 3 * c)) (nI v) M0 = xiL n0 w x2 (nI (c + 1)) (sA (sA (sA M 29 (2 + 3 * c) (nI v)) 29 (2 + 3 * c + 1) (nI ((pm c).2 / 256))) 29 (2 + 3 * c + 1 + 1) (nI ((pm c).2 % 256))) := fun M0 e0 => by
        subst e0
        have d0 : (nI (2 + 3 * c)).toNatClampNeg = 2 + 3 * c := nI_clamp (by omega)
        have d1 : (nI (2 + 3 * c + 1)).toNatClampNeg = 2 + 3 * c + 1 := nI_clamp (by omega)
        have d2 : (nI (2 + 3 * c + 2)).toNatClampNeg = 2 + 3 * c + 2 := nI_clamp (by omega)
        have j1 : nI (2 + 3 * c) + 1 = nI (2 + 3 * c + 1) := nI_add _ 1
        have j2 : nI (2 + 3 * c) + 2 = nI (2 + 3 * c + 2) := nI_add _ 2
        have h12 : gA M0 12 c = nI (pm c).2 := by rw [hx.2.2.2.2 12 (by decide)]; exact px.2
        unfold fX6_writeImage_79
        rw [ln29]
        simp only [cc, d0, j1, d1, j2, d2]
        refine eq_f (nI_in (by omega) (by decide)) (eq_n (eq_f (nI_in (by omega) (by decide)) (eq_f (nI_in (by omega) (by decide)) (eq_e (v' := sA (sA M0 29 (2 + 3 * c) (nI v)) 29 (2 + 3 * c + 1) (nI ((pm c).2 / 256))) ?_ (eq_f (nI_in (by omega) (by decide)) (eq_f (nI_in (by omega) (by decide)) (eq_e (v' := sA (sA (sA M0 29 (2 + 3 * c) (nI v)) 29 (2 + 3 * c + 1) (nI ((pm c).2 / 256))) 29 (2 + 3 * c + 1 + 1) (nI ((pm c).2 % 256))) ?_ ?_)))))))
        · rw [gA_sA_ne (by decide), h12, shr8 (by omega)]
        · rw [gA_sA_ne (by decide), gA_sA_ne (by decide), h12, and255]
        · rw [k1]
      refine ⟨M', N', ?_, ?_, r3, r4, r5⟩
      · refine eq_f (by rw [q5]; exact nI_ge hcn (by omega)) (eq_e ix (eq_f (nI_in (by omega) (by decide)) ?_))
        rw [show gA M 11 (nI c).toNatClampNeg = (pm c).1 by rw [cc, hx.2.2.2.2 11 (by decide), px.1]]
        rcases v3 with ⟨z1, z2⟩ | ⟨z1, z2⟩
        · refine eq_t z1 ?_
          subst z2
          exact (x79 M rfl).trans r1
        · refine eq_f z1 (eq_f (nI_in (by omega) (by decide)) ?_)
          rw [z2]
          exact (x79 M rfl).trans r1
      · refine eq_f o13 (eq_f (by rw [y5]; exact nI_ge hcn (by omega)) (eq_f (nI_in (by omega) (by decide)) (eq_b (z := N1) ?_ (eq_f (nI_in (by omega) (by decide)) (eq_b (z := N2) ?_ (eq_f (nI_in (by omega) (by decide)) (eq_b (z := N3) ?_ ?_)))))))
        · rw [cc, hy.2.2.2.2 29 (by decide), py.1]; exact a1
        · rw [cc, (hy.tr a3).2.2.2.2 30 (by decide), py.2]; exact b1
        · rw [cc, (hy.tr (a3.tr b3)).2.2.2.2 30 (by decide), py.2]; exact c1
        · rw [k1]; exact r2
abbrev xiD (n0 : Nat) : Nat → Int32 → Int32 → Mem → Option (Int32 × Mem) := loopN (bX6_writeImage_119 n0 29) (fun _ _ _ => none)
abbrev yiD (n0 : Nat) : Nat → Int32 → Mem → Option (Int32 × Mem) := loopN (bX12_image_84 n0) (fun _ _ => none)
theorem imD {n0 q b m : Nat} {T : TP} {pm : Nat → Int32 × Nat} {s : Nat × List (Nat × Nat)} {MX MY : Mem} {x2 : Int32} (hT : XT n0 q T MX) (hY : YT n0 b T MY) (hS : SX q T.nc T.nd m pm s MX) (hL : LyD 0 T.nc m pm s MY) (hs : sOk T.nd s) : ∀ w d M N, d ≤ T.nd → T.nd < w + d → ImR (2 + 3 * T.nc + d) M N → XIm MX M → YIm MY N → ∃ M' N', xiD n0 w x2 (nI d) M = ((fX6_checkOf n0 29 (x2 - (1 : Int32)) M').bind fun z165 =>
    if oob (x2 - (1 : Int32)) (LX.ln 29) then none else
    bnd (sA z165.2 29 (Int32.toNatClampNeg (x2 - (1 : Int32))) z165.1) fun M168 =>
    some (x2, M168)) ∧ yiD n0 w (nI d) N = fX12_image_131 n0 227 0 N' ∧ ImR (2 + 3 * T.nc + T.nd) M' N' ∧ XIm MX M' ∧ YIm MY N'
  | 0, d, M, N, hd, hw, _, _, _ => by omega
  | w + 1, d, M, N, hd, hw, hI, hx, hy => by
    show ∃ M' N', bX6_writeImage_119 n0 29 (xiD n0 w) x2 (nI d) M = _ ∧ bX12_image_84 n0 (yiD n0 w) (nI d) N = _ ∧ _
    obtain ⟨o1, o2, o3, _⟩ := hT.2.1
    have hb := hY.2.2.1
    have q12 : gI M (128 * gR M 1280 + 12) = nI T.nd := by rw [hx.1, hS.2.1, hx.2.2.2.1]; exact hT.2.2.2.1
    have q5 : gI M (128 * gR M 1280 + 5) = nI T.nc := by rw [hx.1, hS.2.1, hx.2.2.2.1]; exact hT.2.2.1
    have i13 : gI N 13 = nI b := (hy.2.2.2.1 13 (by decide)).trans hY.2.2.2.1
    have o13 : ¬ oob (gI N 13) 2 := by rw [i13]; exact nI_in (by omega) (by decide)
    have y10 : gA N 10 (gI N 13).toNatClampNeg = nI T.nd := by rw [i13, nI_clamp (by omega), hy.2.2.2.2 10 (by decide)]; exact hY.2.2.2.2.2.2.1
    have s64 : s.1 < 64 := Nat.lt_of_lt_of_le hs.1 (p64 o3)
    unfold bX6_writeImage_119 bX12_image_84
    by_cases g : d = T.nd
    · subst g
      exact ⟨M, N, eq_t (by rw [q12]; exact Int32.le_refl _) rfl, eq_f o13 (eq_t (by rw [y10]; exact Int32.le_refl _) rfl), hI, hx, hy⟩
    · have hdn : d < T.nd := by omega
      have cd : (nI d).toNatClampNeg = d := nI_clamp (by omega)
      have b2 : s.1 / 2 ^ d % 2 < 2 := Nat.mod_lt _ (by decide)
      have d13 := hS.2.2.2.2.1 d hdn
      obtain ⟨N1, a1, a2, a3⟩ := imp (n0 := n0) (v := s.1 / 2 ^ d % 2) (x := nI (s.1 / 2 ^ d % 2)) hI (by omega) (by omega) (by rw [and255, Nat.mod_eq_of_lt (by omega)])
      obtain ⟨M', N', r1, r2, r3, r4, r5⟩ := imD (x2 := x2) hT hY hS hL hs w (d + 1) _ N1 (by omega) (by omega) (show ImR (2 + 3 * T.nc + (d + 1)) _ _ from a2) hx.a (hy.tr a3)
      have k1 : nI d + 1 = nI (d + 1) := nI_add d 1
      have ix : (2 : Int32) + 3 * gI M (128 * gR M 1280 + 5) + nI d = nI (2 + 3 * T.nc + d) := by rw [q5, n3, show (2 : Int32) = nI 2 from rfl, nI_add, nI_add]
      refine ⟨M', N', eq_f (by rw [q12]; exact nI_ge hdn (by omega)) (eq_f (nI_in (by omega) (by decide)) (eq_f ?_ (eq_e (v' := sA M 29 (2 + 3 * T.nc + d) (nI (s.1 / 2 ^ d % 2))) ?_ ?_))), eq_f o13 (eq_f (by rw [y10]; exact nI_ge hdn (by omega)) (eq_f (by decide) (eq_b (z := (bI (s.1 / 2 ^ d % 2 = 1), N)) ?_ ?_))), r3, r4, r5⟩
      · rw [ix, ln29]; exact nI_in (by omega) (by decide)
      · rw [ix, nI_clamp (by omega), cd, hx.2.2.2.2 13 (by decide), d13]
      · rw [k1]; exact r1
      · rw [show gA N 31 (Int32.toNatClampNeg 0) = nI s.1 by rw [hy.2.2.2.2 31 (by decide)]; exact hL.2.1]
        exact yhas2 s64 (by omega)
      · have st : ∀ u, u = nI (s.1 / 2 ^ d % 2) → fX12_image_116 n0 (yiD n0 w) (nI d) u N = fX12_image_131 n0 227 0 N' := fun u e => by
          unfold fX12_image_116
          rw [e, k1]
          exact eq_b a1 r2
        by_cases z : s.1 / 2 ^ d % 2 = 1
        · exact eq_f (show ¬ bI (s.1 / 2 ^ d % 2 = 1) = 0 by rw [bI_t z]; decide) (st 1 (by rw [z]; rfl))
        · exact eq_t (show bI (s.1 / 2 ^ d % 2 = 1) = 0 from bI_f z) (st 0 (by rw [show s.1 / 2 ^ d % 2 = 0 by omega]; rfl))
theorem yck {n0 n : Nat} {bv : Nat → Nat} {N : Mem} (hn : n ≤ 24) (h67 : gI N 67 = nI n) (hb : ∀ j, j < n → gA N 43 j = nI (bv j) ∧ bv j < 256) : ∀ w k, k ≤ n → n < w + k → loopN (bX12_image_131 n0) (fun _ _ _ => none) w (nI (ckN bv k)) (nI k) N = (fX12_writes n0 (nI (ckN bv n)) N).bind (fun z162 => some ((gI z162 67), z162))
  | 0, k, hk, hw => by omega
  | w + 1, k, hk, hw => by
    show bX12_image_131 n0 (loopN (bX12_image_131 n0) (fun _ _ _ => none) w) (nI (ckN bv k)) (nI k) N = _
    unfold bX12_image_131
    by_cases g : k = n
    · rw [g]
      exact eq_t (by rw [h67]; exact Int32.le_refl _) rfl
    · have ck : (nI k).toNatClampNeg = k := nI_clamp (by omega)
      refine eq_f (by rw [h67]; exact nI_ge (by omega) (by omega)) (eq_f (nI_in (by omega) (by decide)) (eq_f (by decide) (eq_e (v' := nI (ckN bv (k + 1))) ?_ ?_)))
      · rw [ck, (hb k (by omega)).1, ck1 (hb k (by omega)).2]
      · rw [show nI k + 1 = nI (k + 1) from nI_add k 1]
        exact yck (n0 := n0) hn h67 hb w (k + 1) (by omega) (by omega)
theorem cImage {n0 : Nat} {MX MY : Mem} (hn : 1700 ≤ n0) (h : R n0 MX MY) : Cal n0 (fX11_image n0 MX) (fX12_image n0 MY) := by
  obtain ⟨q, b, T, nr, C, m, pm, s, h⟩ := h
  obtain ⟨h1, h2, h3, h4, h5, h6, h7⟩ := id h
  obtain ⟨o1, o2, o3, _⟩ := h1.2.2.2.1.2.1
  have hm := h2.1
  have hx := h1.2.2.2.1
  have hy := h1.2.2.2.2.1
  -- the minute
  have I0 : ImR 0 MX (sI MY 67 0) := ⟨gI_at, fun k hk => by omega⟩
  obtain ⟨N1, a1, a2, a3⟩ := imp (n0 := n0) (v := m / 256) (x := nI m >>> ((8 : Int32) &&& 31)) I0 (by decide) (by omega) (by rw [shr8 (by omega), and255, Nat.mod_eq_of_lt (by omega)])
  obtain ⟨N2, b1, b2, b3⟩ := imp (n0 := n0) (v := m % 256) (x := nI m) a2 (by decide) (by omega) (and255 _)
  have y0 : YIm MY (sI MY 67 0) := ⟨rfl, rfl, rfl, fun k z => gI_ne z, fun _ _ => rfl⟩
  have y2 := y0.tr (a3.tr b3)
  obtain ⟨M3, N3, c1, c2, c3, c4, c5⟩ := imC (n0 := n0) (x2 := nI (2 + 3 * T.nc + T.nd + 1)) hx hy h3 h4 h2.2.1 n0 0 _ N2 (by omega) (by omega) b2 (XIm.r.a.a) y2
  obtain ⟨M4, N4, d1, d2, d3, d4, d5⟩ := imD (n0 := n0) (x2 := nI (2 + 3 * T.nc + T.nd + 1)) hx hy h3 h4 h2.2.2 n0 0 M3 N3 (by omega) (by omega) c3 c4 c5
  have bvx : ∀ j, j < 2 + 3 * T.nc + T.nd → gA M4 29 j = nI ((gA M4 29 j).toNatClampNeg) ∧ (gA M4 29 j).toNatClampNeg < 256 := fun j hj => by
    obtain ⟨v, v1, v2, _⟩ := d3.2 j hj
    rw [v2, nI_clamp (by omega)]
    exact ⟨rfl, v1⟩
  have bvy : ∀ j, j < 2 + 3 * T.nc + T.nd → gA N4 43 j = nI ((gA M4 29 j).toNatClampNeg) ∧ (gA M4 29 j).toNatClampNeg < 256 := fun j hj => by
    obtain ⟨v, v1, v2, v3⟩ := d3.2 j hj
    rw [v2, nI_clamp (by omega), v3]
    exact ⟨rfl, v1⟩
  have ckl := ckN_lt (fun j => (gA M4 29 j).toNatClampNeg) (2 + 3 * T.nc + T.nd)
  have e1 : fX6_checkOf n0 29 (nI (2 + 3 * T.nc + T.nd)) M4 = some (nI (ckN (fun j => (gA M4 29 j).toNatClampNeg) (2 + 3 * T.nc + T.nd)), M4) := xck (by rw [ln29]; omega) (by rw [ln29]; decide) bvx n0 0 (by omega) (by omega)
  have e2 := yck (n0 := n0) (n := 2 + 3 * T.nc + T.nd) (N := N4) (by omega) d3.1 bvy n0 0 (by omega) (by omega)
  obtain ⟨N5, f1, f2, f3⟩ := imp (n0 := n0) (v := ckN (fun j => (gA M4 29 j).toNatClampNeg) (2 + 3 * T.nc + T.nd)) (x := nI (ckN (fun j => (gA M4 29 j).toNatClampNeg) (2 + 3 * T.nc + T.nd))) d3 (by omega) (by omega) (by rw [and255, Nat.mod_eq_of_lt (by omega)])
  have sz : nI (2 + 3 * T.nc + T.nd + 1) - 1 = nI (2 + 3 * T.nc + T.nd) := nIs _
  have fx := d4.a (i := 2 + 3 * T.nc + T.nd) (v := nI (ckN (fun j => (gA M4 29 j).toNatClampNeg) (2 + 3 * T.nc + T.nd)))
  have fy := d5.tr f3
  refine ⟨nI (2 + 3 * T.nc + T.nd + 1), sI (sA M4 29 (2 + 3 * T.nc + T.nd) (nI (ckN (fun j => (gA M4 29 j).toNatClampNeg) (2 + 3 * T.nc + T.nd)))) 14 (nI (2 + 3 * T.nc + T.nd + 1)), N5, ?_, ?_, q, b, T, nr, C, m, pm, s, h.ou ⟨fx.1, fun k z => by rw [gI_ne (by omega), fx.2.2.2.1], fun a z => fx.2.2.2.2 a (by omega)⟩ ⟨fun k z => fy.2.2.2.1 k (by omega), fun a z => fy.2.2.2.2 a (by omega), fy.2.2.1⟩ ?_⟩
  · unfold fX11_image
    refine eq_b (z := (nI (2 + 3 * T.nc + T.nd + 1), sA M4 29 (2 + 3 * T.nc + T.nd) (nI (ckN (fun j => (gA M4 29 j).toNatClampNeg) (2 + 3 * T.nc + T.nd))))) ?_ (eq_n (by rw [gI_at]))
    unfold fX6_writeImage fX6_imageSize
    have q5 : gI MX (128 * gR MX 1280 + 5) = nI T.nc := by rw [h3.2.1]; exact hx.2.2.1
    have q12 : gI MX (128 * gR MX 1280 + 12) = nI T.nd := by rw [h3.2.1]; exact hx.2.2.2.1
    have ez : (2 : Int32) + 3 * gI MX (128 * gR MX 1280 + 5) + gI MX (128 * gR MX 1280 + 12) + 1 = nI (2 + 3 * T.nc + T.nd + 1) := by
      rw [q5, q12, n3, show (2 : Int32) = nI 2 from rfl, nI_add, nI_add]
      exact nI_add _ 1
    rw [ez, ln29]
    refine eq_b rfl (eq_t (nI_le (b := 24) (by omega) (by decide)) (eq_f (by decide) (eq_e (v' := sA MX 29 0 (nI (m / 256))) ?_ (eq_f (by decide) (eq_e (v' := sA (sA MX 29 0 (nI (m / 256))) 29 (0 + 1) (nI (m % 256))) ?_ ?_)))))
    · show sA MX 29 0 (gI MX 1281 >>> ((8 : Int32) &&& 31)) = _
      rw [h3.2.2.1, shr8 (by omega)]
    · show sA (sA MX 29 0 (nI (m / 256))) 29 1 (gI MX 1281 &&& 255) = _
      rw [h3.2.2.1, and255]
    · refine Eq.trans c1 (Eq.trans d1 ?_)
      rw [sz, ln29]
      refine eq_b e1 (eq_f (nI_in (by omega) (by decide)) (eq_e (v' := sA M4 29 (2 + 3 * T.nc + T.nd) (nI (ckN (fun j => (gA M4 29 j).toNatClampNeg) (2 + 3 * T.nc + T.nd)))) ?_ rfl))
      rw [nI_clamp (by omega)]
  · unfold fX12_image
    refine eq_n (eq_f (by decide) (eq_b (z := N1) ?_ (eq_f (by decide) (eq_b (z := N2) ?_ (Eq.trans c2 (Eq.trans d2 (Eq.trans e2 (eq_b f1 ?_))))))))
    · rw [show gA (sI MY 67 0) 28 (Int32.toNatClampNeg 0) = nI m from h4.1.1]; exact a1
    · rw [show gA N1 28 (Int32.toNatClampNeg 0) = nI m by rw [(y0.tr a3).2.2.2.2 28 (by decide)]; exact h4.1.1]; exact b1
    · rw [f2.1]
  · obtain ⟨p1, p2, p3, p4, p5, p6⟩ := h7
    refine ⟨p1.cg (by rw [gI_ne (by decide), fx.2.2.2.1]) (by rw [fy.2.1]), ⟨2 + 3 * T.nc + T.nd + 1, by omega, gI_at, f2.1, fun k hk => ?_⟩, p3.cg (fx.2.2.2.2 30 (by decide)) (fy.2.2.2.2 27 (by decide)), p4.cg (by rw [gI_ne (by decide), fx.2.2.2.1]) (by rw [gI_ne (by decide), fx.2.2.2.1]) (fy.2.2.2.1 10 (by decide)) (fy.2.2.2.1 11 (by decide)), p5.cg (by rw [gI_ne (by decide), fx.2.2.2.1]) (fy.2.2.2.1 1 (by decide)) (fx.2.2.2.2 6 (by decide)) (fy.2.2.2.2 1 (by decide)), p6.cg (fx.2.2.2.2 4 (by decide))⟩
    obtain ⟨v, _, v2, v3⟩ := f2.2 k hk
    exact v2.trans v3.symm
