/-! ON: an image is read on both sides -/
theorem nOr (a b : Nat) : nI a ||| nI b = nI (a ||| b) := by
  apply Int32.toBitVec_inj.1
  show BitVec.ofNat 32 a ||| BitVec.ofNat 32 b = BitVec.ofNat 32 (a ||| b)
  exact BitVec.ofNat_or.symm
theorem pair8 {a c : Nat} (ha : a ≤ 255) (hc : c ≤ 255) : (nI a <<< ((8 : Int32) &&& 31)) ||| nI c = nI (256 * a + c) := by
  rw [pk_shlN _ 8 (by decide) (by omega), nOr, Nat.mul_comm]
  congr 1
  exact (Nat.two_pow_add_eq_or_of_lt (i := 8) (show c < 2 ^ 8 by omega) a).symm
theorem bt_on1 : ∀ d, d < 6 → ∀ D, D < 64 → D < 2 ^ d → ∀ v, v < 2 → (nI D ||| (nI v <<< (nI d &&& 31)) = nI (D + v * 2 ^ d)) := by decide +kernel
theorem bt_on2 : ∀ d, d < 6 → ∀ D, D < 64 → D < 2 ^ d → ∀ v, v < 2 → D + v * 2 ^ d < 2 ^ (d + 1) := by decide +kernel
theorem bt_on3 : ∀ d, d < 6 → ∀ D, D < 64 → D < 2 ^ d → ∀ v, v < 2 → (D + v * 2 ^ d) / 2 ^ d % 2 = v := by decide +kernel
theorem bt_on4 : ∀ d, d < 6 → ∀ D, D < 64 → ∀ v, v < 2 → ∀ e, e < d → (D + v * 2 ^ d) / 2 ^ e % 2 = D / 2 ^ e % 2 := by decide +kernel
def Dn (f : Nat → Nat) : Nat → Nat
  | 0 => 0
  | d + 1 => Dn f d + f d * 2 ^ d
theorem Dn_ok {f : Nat → Nat} {n : Nat} (hn : n ≤ 6) (hf : ∀ d, d < n → f d ≤ 1) : ∀ d, d ≤ n → Dn f d < 2 ^ d ∧ ∀ e, e < d → Dn f d / 2 ^ e % 2 = f e
  | 0, _ => ⟨Nat.zero_lt_one, fun e he => by omega⟩
  | d + 1, hd => by
    obtain ⟨a1, a2⟩ := Dn_ok hn hf d (by omega)
    have p := p64 (n := d) (by omega)
    have h1 := hf d (by omega)
    have b2 := bt_on2 d (by omega) (Dn f d) (by omega) a1 (f d) (by omega)
    have b3 := bt_on3 d (by omega) (Dn f d) (by omega) a1 (f d) (by omega)
    have b4 := bt_on4 d (by omega) (Dn f d) (by omega) (f d) (by omega)
    refine ⟨b2, fun e he => ?_⟩
    by_cases z : e = d
    · rw [z]; exact b3
    · exact (b4 e (by omega)).trans (a2 e (by omega))
/-- bytes of a tape -/
def Bv (t : Nat → Int32) (bv : Nat → Nat) (L : Nat) : Prop := ∀ i, i < L → t i = nI (bv i) ∧ bv i ≤ 255
theorem byt_bv {t : Nat → Int32} {L : Nat} (h : Byt t L) : Bv t (fun i => (t i).toNatClampNeg) L := fun i hi => by
  obtain ⟨v, v1, v2⟩ := byt_v h hi
  dsimp only
  rw [v2, nI_clamp (by omega)]
  exact ⟨rfl, v1⟩
theorem xatb {n0 L i : Nat} {bv : Nat → Nat} {M : Mem} (hL : gI M 641 = nI L) (h16 : L ≤ 1600) (hb : Bv (gA M 6) bv L) (hi : i < L) : fX7_at n0 (nI i) M = some (nI (bv i), M) := by rw [xat hL h16 hi, (hb i hi).1]
theorem xpair {n0 L i : Nat} {bv : Nat → Nat} {M : Mem} (hL : gI M 641 = nI L) (h16 : L ≤ 1600) (hb : Bv (gA M 6) bv L) (hi : i + 1 < L) : fX7_pairAt n0 (nI i) M = some (nI (256 * bv i + bv (i + 1)), M) := by
  unfold fX7_pairAt
  refine eq_b (xatb hL h16 hb (by omega)) (eq_b (z := (nI (bv (i + 1)), M)) ?_ ?_)
  · rw [show nI i + 1 = nI (i + 1) from nI_add i 1]
    exact xatb hL h16 hb hi
  · show some ((256 : Int32) * nI (bv i) + nI (bv (i + 1)), M) = _
    rw [show (256 : Int32) = nI 256 from rfl, nI_mul, nI_add]
def okC (bv : Nat → Nat) (nt c : Nat) : Prop := (bv (2 + 3 * c) = 255 ∨ bv (2 + 3 * c) < nt) ∧ 256 * bv (3 + 3 * c) + bv (4 + 3 * c) ≤ 999
abbrev xoC (n0 : Nat) : Nat → Int32 → Int32 → Mem → Option (Int32 × Mem) := loopN (bX6_isImage_28 n0) (fun _ _ _ => none)
theorem xon28 {n0 q L : Nat} {T : TP} {bv : Nat → Nat} {M : Mem} {x2 : Int32} (hT : XT n0 q T M) (hq : gR M 1280 = q) (hL : gI M 641 = nI L) (h16 : L ≤ 1600) (hb : Bv (gA M 6) bv L) (hs : L = 2 + 3 * T.nc + T.nd + 1) : ∀ w c, c ≤ T.nc → T.nc < w + c → (xoC n0 w x2 (nI c) M = fX6_isImage_107 n0 x2 0 M ∧ ∀ j, c ≤ j → j < T.nc → okC bv T.nt j) ∨ (xoC n0 w x2 (nI c) M = some (0, M) ∧ ¬ ∀ j, c ≤ j → j < T.nc → okC bv T.nt j)
  | 0, c, hc, hw => by omega
  | w + 1, c, hc, hw => by
    show (bX6_isImage_28 n0 (xoC n0 w) x2 (nI c) M = _ ∧ _) ∨ (bX6_isImage_28 n0 (xoC n0 w) x2 (nI c) M = _ ∧ _)
    obtain ⟨o1, o2, o3, _⟩ := hT.2.1
    have q5 : gI M (128 * gR M 1280 + 5) = nI T.nc := by rw [hq]; exact hT.2.2.1
    unfold bX6_isImage_28
    by_cases g : c = T.nc
    · exact Or.inl ⟨eq_t (by rw [q5, g]; exact Int32.le_refl _) rfl, fun j h1 h2 => by omega⟩
    · have hcn : c < T.nc := by omega
      have st : ¬ gI M (128 * gR M 1280 + 5) ≤ nI c := by rw [q5]; exact nI_ge hcn (by omega)
      have ix : (2 : Int32) + 3 * nI c = nI (2 + 3 * c) := by rw [n3, show (2 : Int32) = nI 2 from rfl, nI_add]
      have ix3 : (3 : Int32) + 3 * nI c = nI (3 + 3 * c) := by rw [n3, show (3 : Int32) = nI 3 from rfl, nI_add]
      have a1 := xatb (n0 := n0) hL h16 hb (i := 2 + 3 * c) (by omega)
      have a2 := xpair (n0 := n0) hL h16 hb (i := 3 + 3 * c) (by omega)
      have b0 := (hb (2 + 3 * c) (by omega)).2
      have b1 := (hb (3 + 3 * c) (by omega)).2
      have b2 := (hb (3 + 3 * c + 1) (by omega)).2
      have e4 : 3 + 3 * c + 1 = 4 + 3 * c := by omega
      rw [e4] at a2 b2
      have k1 : nI c + 1 = nI (c + 1) := nI_add c 1
      rw [ix]
      by_cases g1 : bv (2 + 3 * c) = 255 ∨ bv (2 + 3 * c) < T.nt
      · have go : ∀ r, fX6_isImage_70 n0 (xoC n0 w) x2 (nI c) M = r → (fX7_at n0 (nI (2 + 3 * c)) M).bind (fun z45 => if z45.1 = (255 : Int32) then fX6_isImage_70 n0 (xoC n0 w) x2 (nI c) z45.2 else (fX9_isThing n0 (gR z45.2 1280) z45.1 z45.2).bind fun z64 => if z64.1 = 0 then fX6_isImage_75 n0 (xoC n0 w) x2 (nI c) (0 : Int32) z64.2 else fX6_isImage_70 n0 (xoC n0 w) x2 (nI c) z64.2) = r := fun r hr => by
          refine eq_b a1 ?_
          by_cases g2 : bv (2 + 3 * c) = 255
          · exact eq_t (by rw [g2]; rfl) hr
          · refine eq_f (fun z => g2 ((nI_eq (b := 255) (by omega) (by decide)).mp z)) (eq_b (z := (1, M)) ?_ (eq_f (show ¬ (1 : Int32) = 0 by decide) hr))
            show fX9_isThing n0 (gR M 1280) (nI (bv (2 + 3 * c))) M = _
            rw [hq]
            exact xTht hT.1.2.2.1 o1 (g1.resolve_left g2)
        by_cases g3 : 256 * bv (3 + 3 * c) + bv (4 + 3 * c) ≤ 999
        · have sx : fX6_isImage_70 n0 (xoC n0 w) x2 (nI c) M = xoC n0 w x2 (nI (c + 1)) M := by
            unfold fX6_isImage_70 fX6_isImage_75
            rw [ix3, k1]
            exact eq_f (by decide) (eq_b a2 (eq_t (nI_le (b := 999) g3 (by decide)) rfl))
          rcases xon28 (x2 := x2) hT hq hL h16 hb hs w (c + 1) (by omega) (by omega) with ⟨r1, r2⟩ | ⟨r1, r2⟩
          · refine Or.inl ⟨eq_f st (go _ (sx.trans r1)), fun j h1 h2 => ?_⟩
            by_cases z : j = c
            · rw [z]; exact ⟨g1, g3⟩
            · exact r2 j (by omega) h2
          · exact Or.inr ⟨eq_f st (go _ (sx.trans r1)), fun z => r2 (fun j h1 h2 => z j (by omega) h2)⟩
        · refine Or.inr ⟨eq_f st (go _ ?_), fun z => g3 (z c (by omega) hcn).2⟩
          unfold fX6_isImage_70 fX6_isImage_75
          rw [ix3]
          exact eq_f (by decide) (eq_b a2 (eq_f (nI_ge (a := 999) (by omega) (by omega)) rfl))
      · refine Or.inr ⟨eq_f st (eq_b a1 (eq_f (fun z => g1 (Or.inl ((nI_eq (b := 255) (by omega) (by decide)).mp z))) (eq_b (z := (0, M)) ?_ (eq_t rfl ?_)))), fun z => g1 (z c (by omega) hcn).1⟩
        · show fX9_isThing n0 (gR M 1280) (nI (bv (2 + 3 * c))) M = _
          rw [hq]
          exact xThf hT.1.2.2.1 (Or.inr (nI_le (by omega) (by omega)))
        · unfold fX6_isImage_75
          exact eq_t rfl rfl
abbrev xoD (n0 : Nat) : Nat → Int32 → Int32 → Mem → Option (Int32 × Mem) := loopN (bX6_isImage_107 n0) (fun _ _ _ => none)
theorem xon107 {n0 q L : Nat} {T : TP} {bv : Nat → Nat} {M : Mem} (hn : 1700 ≤ n0) (hT : XT n0 q T M) (hq : gR M 1280 = q) (hL : gI M 641 = nI L) (h16 : L ≤ 1600) (hb : Bv (gA M 6) bv L) (hs : L = 2 + 3 * T.nc + T.nd + 1) : ∀ w d, d ≤ T.nd → T.nd < w + d → (xoD n0 w (nI L) (nI d) M = some (1, M) ∧ (∀ j, d ≤ j → j < T.nd → bv (2 + 3 * T.nc + j) ≤ 1) ∧ bv (L - 1) = ckN bv (L - 1)) ∨ (xoD n0 w (nI L) (nI d) M = some (0, M) ∧ ¬ ((∀ j, d ≤ j → j < T.nd → bv (2 + 3 * T.nc + j) ≤ 1) ∧ bv (L - 1) = ckN bv (L - 1)))
  | 0, d, hd, hw => by omega
  | w + 1, d, hd, hw => by
    show (bX6_isImage_107 n0 (xoD n0 w) (nI L) (nI d) M = _ ∧ _) ∨ (bX6_isImage_107 n0 (xoD n0 w) (nI L) (nI d) M = _ ∧ _)
    obtain ⟨o1, o2, o3, _⟩ := hT.2.1
    have q5 : gI M (128 * gR M 1280 + 5) = nI T.nc := by rw [hq]; exact hT.2.2.1
    have q12 : gI M (128 * gR M 1280 + 12) = nI T.nd := by rw [hq]; exact hT.2.2.2.1
    have l1 : nI L - 1 = nI (L - 1) := by
      rw [show L = (L - 1) + 1 by omega]
      exact nIs _
    have ln6 : LX.ln 6 = 1600 := rfl
    unfold bX6_isImage_107
    by_cases g : d = T.nd
    · have e1 : fX6_checkOf n0 6 (nI (L - 1)) M = some (nI (ckN bv (L - 1)), M) := xck (by rw [ln6]; omega) (by rw [ln6]; decide) (fun j hj => ⟨(hb j (by omega)).1, by have := (hb j (by omega)).2; omega⟩) n0 0 (by omega) (by omega)
      have a1 := xatb (n0 := n0) hL h16 hb (i := L - 1) (by omega)
      have b1 := (hb (L - 1) (by omega)).2
      have c1 := ckN_lt bv (L - 1)
      rw [l1]
      by_cases z : bv (L - 1) = ckN bv (L - 1)
      · exact Or.inl ⟨eq_t (by rw [q12, g]; exact Int32.le_refl _) (eq_b a1 (eq_b e1 (eq_t (congrArg nI z) rfl))), fun j h1 h2 => by omega, z⟩
      · exact Or.inr ⟨eq_t (by rw [q12, g]; exact Int32.le_refl _) (eq_b a1 (eq_b e1 (eq_f (fun y => z ((nI_eq (by omega) (by omega)).mp y)) rfl))), fun y => z y.2⟩
    · have hdn : d < T.nd := by omega
      have st : ¬ gI M (128 * gR M 1280 + 12) ≤ nI d := by rw [q12]; exact nI_ge hdn (by omega)
      have ix : (2 : Int32) + 3 * gI M (128 * gR M 1280 + 5) + nI d = nI (2 + 3 * T.nc + d) := by rw [q5, n3, show (2 : Int32) = nI 2 from rfl, nI_add, nI_add]
      have a1 := xatb (n0 := n0) hL h16 hb (i := 2 + 3 * T.nc + d) (by omega)
      have b1 := (hb (2 + 3 * T.nc + d) (by omega)).2
      rw [ix]
      by_cases z : bv (2 + 3 * T.nc + d) ≤ 1
      · rcases xon107 hn hT hq hL h16 hb hs w (d + 1) (by omega) (by omega) with ⟨r1, r2, r3⟩ | ⟨r1, r2⟩
        · refine Or.inl ⟨eq_f st (eq_b a1 (eq_t (nI_le (b := 1) z (by decide)) ?_)), fun j h1 h2 => ?_, r3⟩
          · rw [show nI d + 1 = nI (d + 1) from nI_add d 1]; exact r1
          · by_cases y : j = d
            · rw [y]; exact z
            · exact r2 j (by omega) h2
        · refine Or.inr ⟨eq_f st (eq_b a1 (eq_t (nI_le (b := 1) z (by decide)) ?_)), fun y => r2 ⟨fun j h1 h2 => y.1 j (by omega) h2, y.2⟩⟩
          rw [show nI d + 1 = nI (d + 1) from nI_add d 1]; exact r1
      · exact Or.inr ⟨eq_f st (eq_b a1 (eq_f (nI_ge (a := 1) (by omega) (by omega)) rfl)), fun y => z (y.1 d (by omega) hdn)⟩
/-- an image of this town -/
def isIm (T : TP) (bv : Nat → Nat) (L : Nat) : Prop := L = 2 + 3 * T.nc + T.nd + 1 ∧ 256 * bv 0 + bv 1 ≤ 9999 ∧ (∀ j, j < T.nc → okC bv T.nt j) ∧ (∀ j, j < T.nd → bv (2 + 3 * T.nc + j) ≤ 1) ∧ bv (L - 1) = ckN bv (L - 1)
theorem xisIm {n0 q L : Nat} {T : TP} {bv : Nat → Nat} {M : Mem} (hn : 1700 ≤ n0) (hT : XT n0 q T M) (hq : gR M 1280 = q) (hL : gI M 641 = nI L) (h16 : L ≤ 1600) (hb : Bv (gA M 6) bv L) : (fX6_isImage n0 M = some (1, M) ∧ isIm T bv L) ∨ (fX6_isImage n0 M = some (0, M) ∧ ¬ isIm T bv L) := by
  obtain ⟨o1, o2, o3, _⟩ := hT.2.1
  have q5 : gI M (128 * gR M 1280 + 5) = nI T.nc := by rw [hq]; exact hT.2.2.1
  have q12 : gI M (128 * gR M 1280 + 12) = nI T.nd := by rw [hq]; exact hT.2.2.2.1
  have ez : (2 : Int32) + 3 * gI M (128 * gR M 1280 + 5) + gI M (128 * gR M 1280 + 12) + 1 = nI (2 + 3 * T.nc + T.nd + 1) := by
    rw [q5, q12, n3, show (2 : Int32) = nI 2 from rfl, nI_add, nI_add]
    exact nI_add _ 1
  unfold fX6_isImage fX6_imageSize
  rw [ez]
  by_cases g1 : L = 2 + 3 * T.nc + T.nd + 1
  · have a0 : fX7_pairAt n0 (nI 0) M = some (nI (256 * bv 0 + bv 1), M) := xpair (n0 := n0) hL h16 hb (i := 0) (by omega)
    have b0 := (hb 0 (by omega)).2
    have b1 := (hb 1 (by omega)).2
    have h1 : gI M 641 = nI (2 + 3 * T.nc + T.nd + 1) := by rw [hL, g1]
    by_cases g2 : 256 * bv 0 + bv 1 ≤ 9999
    · rw [← g1] at h1 ⊢
      rcases xon28 (n0 := n0) (x2 := nI L) hT hq hL h16 hb g1 n0 0 (by omega) (by omega) with ⟨r1, r2⟩ | ⟨r1, r2⟩
      · rcases xon107 hn hT hq hL h16 hb g1 n0 0 (by omega) (by omega) with ⟨s1, s2, s3⟩ | ⟨s1, s2⟩
        · exact Or.inl ⟨eq_b rfl (eq_t h1 (eq_b a0 (eq_t (nI_le (b := 9999) g2 (by decide)) (r1.trans s1)))), g1, g2, fun j hj => r2 j (by omega) hj, fun j hj => s2 j (by omega) hj, s3⟩
        · exact Or.inr ⟨eq_b rfl (eq_t h1 (eq_b a0 (eq_t (nI_le (b := 9999) g2 (by decide)) (r1.trans s1)))), fun y => s2 ⟨fun j _ hj => y.2.2.2.1 j hj, y.2.2.2.2⟩⟩
      · exact Or.inr ⟨eq_b rfl (eq_t h1 (eq_b a0 (eq_t (nI_le (b := 9999) g2 (by decide)) r1))), fun y => r2 (fun j _ hj => y.2.2.1 j hj)⟩
    · exact Or.inr ⟨eq_b rfl (eq_t h1 (eq_b a0 (eq_f (nI_ge (a := 9999) (by omega) (by omega)) rfl))), fun y => g2 y.2.1⟩
  · exact Or.inr ⟨eq_b rfl (eq_f (by rw [hL]; exact fun z => g1 ((nI_eq (by omega) (by omega)).mp z)) rfl), fun y => g1 y.1⟩
/-- what an image tells of a palm -/
def pIm (bv : Nat → Nat) : Nat → Int32 × Nat := fun c => (if bv (2 + 3 * c) = 255 then -1 else nI (bv (2 + 3 * c)), 256 * bv (3 + 3 * c) + bv (4 + 3 * c))
abbrev xrC (n0 : Nat) : Nat → Int32 → Mem → Option Mem := loopN (bX6_readImage_16 n0) (fun _ _ => none)
abbrev xrD (n0 : Nat) : Nat → Int32 → Mem → Option Mem := loopN (bX6_readImage_78 n0) (fun _ _ => none)
theorem xrd78 {n0 nc nd L : Nat} {bv : Nat → Nat} (h5 : nc ≤ 5) (h6 : nd ≤ 6) (h16 : L ≤ 1600) (hs : L = 2 + 3 * nc + nd + 1) : ∀ w d M, d ≤ nd → nd < w + d → gI M (128 * gR M 1280 + 5) = nI nc → gI M (128 * gR M 1280 + 12) = nI nd → gI M 641 = nI L → Bv (gA M 6) bv L → ∃ M', xrD n0 w (nI d) M = some M' ∧ (∀ e, d ≤ e → e < nd → gA M' 13 e = nI (bv (2 + 3 * nc + e))) ∧ gR M' = gR M ∧ gL M' = gL M ∧ gB M' = gB M ∧ gI M' = gI M ∧ ∀ a i, ¬ (a = 13 ∧ d ≤ i) → gA M' a i = gA M a i
  | 0, d, M, hd, hw, _, _, _, _ => by omega
  | w + 1, d, M, hd, hw, q5, q12, hL, hb => by
    show ∃ M', bX6_readImage_78 n0 (xrD n0 w) (nI d) M = _ ∧ _
    unfold bX6_readImage_78
    by_cases g : d = nd
    · exact ⟨M, eq_t (by rw [q12, g]; exact Int32.le_refl _) rfl, fun e h1 h2 => by omega, rfl, rfl, rfl, rfl, fun _ _ _ => rfl⟩
    · have cd : (nI d).toNatClampNeg = d := nI_clamp (by omega)
      have ix : (2 : Int32) + 3 * gI M (128 * gR M 1280 + 5) + nI d = nI (2 + 3 * nc + d) := by rw [q5, n3, show (2 : Int32) = nI 2 from rfl, nI_add, nI_add]
      obtain ⟨M', r1, r2, r3, r4, r5, r6, r7⟩ := xrd78 (n0 := n0) h5 h6 h16 hs w (d + 1) (sA M 13 d (nI (bv (2 + 3 * nc + d)))) (by omega) (by omega) q5 q12 hL (by rw [gA_sA_ne (by decide)]; exact hb)
      refine ⟨M', eq_f (by rw [q12]; exact nI_ge (by omega) (by omega)) (eq_b (z := (nI (bv (2 + 3 * nc + d)), M)) (by rw [ix]; exact xatb hL h16 hb (by omega)) (eq_f (nI_in (by omega) (by decide)) (eq_e (v' := sA M 13 d (nI (bv (2 + 3 * nc + d)))) (by rw [cd]) ?_))), fun e h1 h2 => ?_, r3, r4, r5, r6, fun a i z => ?_⟩
      · rw [show nI d + 1 = nI (d + 1) from nI_add d 1]
        exact r1
      · by_cases h : e = d
        · rw [h, r7 13 d (by omega), gA_sA, if_pos rfl, if_pos rfl]
        · exact r2 e (by omega) h2
      · rw [r7 a i (by omega), gA_sA]
        by_cases h : a = 13
        · rw [if_pos h, if_neg (by omega), h]
        · rw [if_neg h]
theorem xrd16 {n0 nc nd L : Nat} {bv : Nat → Nat} (hn : 1700 ≤ n0) (h5 : nc ≤ 5) (h6 : nd ≤ 6) (h16 : L ≤ 1600) (hs : L = 2 + 3 * nc + nd + 1) : ∀ w c M, c ≤ nc → nc < w + c → gI M (128 * gR M 1280 + 5) = nI nc → gI M (128 * gR M 1280 + 12) = nI nd → gI M 641 = nI L → Bv (gA M 6) bv L → ∃ M', xrC n0 w (nI c) M = some M' ∧ (∀ j, c ≤ j → j < nc → gA M' 11 j = (pIm bv j).1 ∧ gA M' 12 j = nI (pIm bv j).2) ∧ (∀ e, e < nd → gA M' 13 e = nI (bv (2 + 3 * nc + e))) ∧ gR M' = gR M ∧ gL M' = gL M ∧ gB M' = gB M ∧ gI M' = gI M ∧ ∀ a i, ¬ (a = 13 ∨ ((a = 11 ∨ a = 12) ∧ c ≤ i)) → gA M' a i = gA M a i
  | 0, c, M, hc, hw, _, _, _, _ => by omega
  | w + 1, c, M, hc, hw, q5, q12, hL, hb => by
    show ∃ M', bX6_readImage_16 n0 (xrC n0 w) (nI c) M = _ ∧ _
    unfold bX6_readImage_16
    by_cases g : c = nc
    · obtain ⟨M', r1, r2, r3, r4, r5, r6, r7⟩ := xrd78 (n0 := n0) h5 h6 h16 hs n0 0 M (by omega) (by omega) q5 q12 hL hb
      exact ⟨M', eq_t (by rw [q5, g]; exact Int32.le_refl _) r1, fun j h1 h2 => by omega, fun e he => r2 e (by omega) he, r3, r4, r5, r6, fun a i z => r7 a i (by omega)⟩
    · have cc : (nI c).toNatClampNeg = c := nI_clamp (by omega)
      have oc : ¬ oob (nI c) 5 := nI_in (by omega) (by decide)
      have ix : (2 : Int32) + 3 * nI c = nI (2 + 3 * c) := by rw [n3, show (2 : Int32) = nI 2 from rfl, nI_add]
      have ix3 : (3 : Int32) + 3 * nI c = nI (3 + 3 * c) := by rw [n3, show (3 : Int32) = nI 3 from rfl, nI_add]
      have b0 := (hb (2 + 3 * c) (by omega)).2
      obtain ⟨M', r1, r2, r3, r4, r5, r6, r7, r8⟩ := xrd16 hn h5 h6 h16 hs w (c + 1) (sA (sA M 11 c (pIm bv c).1) 12 c (nI (pIm bv c).2)) (by omega) (by omega) q5 q12 hL (by rw [gA_sA_ne (by decide), gA_sA_ne (by decide)]; exact hb)
      have x54 : ∀ u, u = (pIm bv c).1 → fX6_readImage_54 n0 (xrC n0 w) (nI c) (nI c) u M = some M' := fun u e => by
        unfold fX6_readImage_54
        rw [ix3, e]
        refine eq_f oc (eq_e (v' := sA M 11 c (pIm bv c).1) (by rw [cc]) (eq_b (z := (nI (pIm bv c).2, sA M 11 c (pIm bv c).1)) ?_ (eq_f oc (eq_e (v' := sA (sA M 11 c (pIm bv c).1) 12 c (nI (pIm bv c).2)) (by rw [cc]) ?_))))
        · have := xpair (n0 := n0) (M := sA M 11 c (pIm bv c).1) (L := L) (bv := bv) hL h16 (by rw [gA_sA_ne (by decide)]; exact hb) (i := 3 + 3 * c) (by omega)
          rw [show 3 + 3 * c + 1 = 4 + 3 * c by omega] at this
          exact this
        · rw [show nI c + 1 = nI (c + 1) from nI_add c 1]
          exact r1
      refine ⟨M', eq_f (by rw [q5]; exact nI_ge (by omega) (by omega)) (eq_b (z := (nI (bv (2 + 3 * c)), M)) (by rw [ix]; exact xatb hL h16 hb (by omega)) ?_), fun j h1 h2 => ?_, r3, r4, r5, r6, r7, fun a i z => ?_⟩
      · by_cases z : bv (2 + 3 * c) = 255
        · exact eq_t (by rw [z]; rfl) (x54 _ (by unfold pIm; rw [if_pos z]))
        · exact eq_f (fun y => z ((nI_eq (b := 255) (by omega) (by decide)).mp y)) (x54 _ (by unfold pIm; rw [if_neg z]))
      · by_cases h : j = c
        · rw [h, r8 11 c (by omega), r8 12 c (by omega), gA_sA_ne (by decide), gA_sA, if_pos rfl, if_pos rfl, gA_sA, if_pos rfl, if_pos rfl]
          exact ⟨rfl, rfl⟩
        · exact r2 j (by omega) h2
      · rw [r8 a i (by omega), gA_sA]
        by_cases h : a = 12
        · rw [if_pos h, if_neg (by omega), gA_sA_ne (by decide), h]
        · rw [if_neg h, gA_sA]
          by_cases h' : a = 11
          · rw [if_pos h', if_neg (by omega), h']
          · rw [if_neg h']
