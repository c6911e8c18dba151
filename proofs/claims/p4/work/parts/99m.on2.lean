/-! ON: the reference, and the call -/
theorem ycor {n0 b c L : Nat} {T : TP} {bv : Nat → Nat} {N : Mem} (hY : YT n0 b T N) (h16 : L ≤ 1600) (hb : Bv (gA N 1) bv L) (hs : L = 2 + 3 * T.nc + T.nd + 1) (hc : c < T.nc) : ((fX12_cornerOn n0 (nI c) (nI (2 + 3 * c)) N = some (1, sA (sA N 29 (5 + c) (pIm bv c).1) 30 (5 + c) (nI (pIm bv c).2)) ∧ okC bv T.nt c) ∨ (fX12_cornerOn n0 (nI c) (nI (2 + 3 * c)) N = some (0, sA (sA N 29 (5 + c) (pIm bv c).1) 30 (5 + c) (nI (pIm bv c).2)) ∧ ¬ okC bv T.nt c)) := by
  obtain ⟨o1, o2, o3, _⟩ := hY.2.1
  have c5 : (5 : Int32) + nI c = nI (5 + c) := by rw [show (5 : Int32) = nI 5 from rfl, nI_add]
  have cc : (nI (5 + c)).toNatClampNeg = 5 + c := nI_clamp (by omega)
  have oc : ¬ oob (nI (5 + c)) 110 := nI_in (by omega) (by decide)
  have ci : (nI (2 + 3 * c)).toNatClampNeg = 2 + 3 * c := nI_clamp (by omega)
  have i1 : nI (2 + 3 * c) + 1 = nI (3 + 3 * c) := by rw [show nI (2 + 3 * c) + 1 = nI (2 + 3 * c + 1) from nI_add _ 1]; congr 1; omega
  have i2 : nI (2 + 3 * c) + 2 = nI (4 + 3 * c) := by rw [show nI (2 + 3 * c) + 2 = nI (2 + 3 * c + 2) from nI_add _ 2]; congr 1; omega
  have ci1 : (nI (3 + 3 * c)).toNatClampNeg = 3 + 3 * c := nI_clamp (by omega)
  have ci2 : (nI (4 + 3 * c)).toNatClampNeg = 4 + 3 * c := nI_clamp (by omega)
  obtain ⟨e0, b0⟩ := hb (2 + 3 * c) (by omega)
  obtain ⟨e1, b1⟩ := hb (3 + 3 * c) (by omega)
  obtain ⟨e2, b2⟩ := hb (4 + 3 * c) (by omega)
  have hh : (pIm bv c).2 = 256 * bv (3 + 3 * c) + bv (4 + 3 * c) := rfl
  have hN2 : ∃ N2, N2 = sA (sA N 29 (5 + c) (pIm bv c).1) 30 (5 + c) (nI (pIm bv c).2) := ⟨_, rfl⟩
  obtain ⟨N2, eN⟩ := hN2
  rw [← eN]
  have a30 : gA N2 30 (5 + c) = nI (pIm bv c).2 := by rw [eN, gA_sA, if_pos rfl, if_pos rfl]
  have i13 : gI N2 13 = nI b := by rw [eN]; exact hY.2.2.2.1
  have a2 : gA N2 2 b = nI T.nt := by rw [eN, gA_sA_ne (by decide), gA_sA_ne (by decide)]; exact hY.2.2.2.2.1
  have x73 : ((pIm bv c).2 ≤ 999 ∧ fX12_cornerOn_73 n0 (nI c) N2 = some (1, N2)) ∨ (¬ (pIm bv c).2 ≤ 999 ∧ fX12_cornerOn_73 n0 (nI c) N2 = some (0, N2)) := by
    unfold fX12_cornerOn_73
    simp only [c5, cc, a30]
    by_cases z : (pIm bv c).2 ≤ 999
    · exact Or.inl ⟨z, eq_f oc (eq_f (fun y => by have := (nI_ltI (a := 999) (by decide) (by omega)).mp y; omega) rfl)⟩
    · exact Or.inr ⟨z, eq_f oc (eq_t (nI_lt (a := 999) (by omega) (by omega)) rfl)⟩
  have x22 : ∀ r, (if (pIm bv c).1 = (-1 : Int32) then fX12_cornerOn_73 n0 (nI c) N2 else (fX12_isThing n0 (pIm bv c).1 N2).bind fun z67 => if z67.1 = 0 then some ((0 : Int32), z67.2) else fX12_cornerOn_73 n0 (nI c) z67.2) = r → fX12_cornerOn_22 n0 (nI c) (nI (2 + 3 * c)) (pIm bv c).1 N = r := fun r hr => by
    unfold fX12_cornerOn_22
    simp only [c5, cc, i1, i2, ci1, ci2]
    refine eq_f oc (eq_n (eq_f (nI_in (by omega) (by decide)) (eq_f (nI_in (by omega) (by decide)) (eq_f oc (eq_e (v' := N2) ?_ hr)))))
    rw [gA_sA_ne (by decide), e1, e2, pair8 b1 b2, eN, hh]
  have x0 : ∀ r, fX12_cornerOn_22 n0 (nI c) (nI (2 + 3 * c)) (pIm bv c).1 N = r → fX12_cornerOn n0 (nI c) (nI (2 + 3 * c)) N = r := fun r hr => by
    unfold fX12_cornerOn
    simp only [ci, e0]
    by_cases z : bv (2 + 3 * c) = 255
    · have : (pIm bv c).1 = -1 := by unfold pIm; exact if_pos z
      rw [this] at hr
      exact eq_f (nI_in (by omega) (by decide)) (eq_t (by rw [z]; rfl) hr)
    · have : (pIm bv c).1 = nI (bv (2 + 3 * c)) := by unfold pIm; exact if_neg z
      rw [this] at hr
      exact eq_f (nI_in (by omega) (by decide)) (eq_f (fun y => z ((nI_eq (b := 255) (by omega) (by decide)).mp y)) (eq_f (nI_in (by omega) (by decide)) hr))
  by_cases z : bv (2 + 3 * c) = 255
  · have p1 : (pIm bv c).1 = -1 := by unfold pIm; exact if_pos z
    rcases x73 with ⟨y, e⟩ | ⟨y, e⟩
    · exact Or.inl ⟨x0 _ (x22 _ (eq_t p1 e)), Or.inl z, y⟩
    · exact Or.inr ⟨x0 _ (x22 _ (eq_t p1 e)), fun w => y w.2⟩
  · have p1 : (pIm bv c).1 = nI (bv (2 + 3 * c)) := by unfold pIm; exact if_neg z
    have p2 : ¬ (pIm bv c).1 = -1 := by rw [p1]; exact nI_m1 (by omega)
    by_cases y : bv (2 + 3 * c) < T.nt
    · have e3 : fX12_isThing n0 (pIm bv c).1 N2 = some (1, N2) := by rw [p1]; exact yTht i13 hY.2.2.1 a2 o1 y
      rcases x73 with ⟨w, e⟩ | ⟨w, e⟩
      · exact Or.inl ⟨x0 _ (x22 _ (eq_f p2 (eq_b e3 (eq_f (show ¬ (1 : Int32) = 0 by decide) e)))), Or.inr y, w⟩
      · exact Or.inr ⟨x0 _ (x22 _ (eq_f p2 (eq_b e3 (eq_f (show ¬ (1 : Int32) = 0 by decide) e)))), fun k => w k.2⟩
    · have e3 : fX12_isThing n0 (pIm bv c).1 N2 = some (0, N2) := by rw [p1]; exact yThf i13 hY.2.2.1 a2 (Or.inr (nI_le (by omega) (by omega)))
      exact Or.inr ⟨x0 _ (x22 _ (eq_f p2 (eq_b e3 (eq_t rfl rfl)))), fun k => k.1.elim z y⟩
abbrev yoC (n0 : Nat) : Nat → Int32 → Int32 → Mem → Option (Int32 × Mem) := loopN (bX12_comesOn_151 n0) (fun _ _ _ => none)
theorem yon151 {n0 b L : Nat} {T : TP} {bv : Nat → Nat} {x2 : Int32} (h16 : L ≤ 1600) (hs : L = 2 + 3 * T.nc + T.nd + 1) : ∀ w c N, c ≤ T.nc → T.nc < w + c → YT n0 b T N → Bv (gA N 1) bv L → ∃ N', YF (tP 1) N N' ∧ gA N' 28 = gA N 28 ∧ (∀ j, j < c → gA N' 29 (5 + j) = gA N 29 (5 + j) ∧ gA N' 30 (5 + j) = gA N 30 (5 + j)) ∧ ((yoC n0 w x2 (nI c) N = fX12_comesOn_191 n0 x2 0 N' ∧ (∀ j, c ≤ j → j < T.nc → okC bv T.nt j ∧ gA N' 29 (5 + j) = (pIm bv j).1 ∧ gA N' 30 (5 + j) = nI (pIm bv j).2)) ∨ (yoC n0 w x2 (nI c) N = some (0, N') ∧ ¬ ∀ j, c ≤ j → j < T.nc → okC bv T.nt j))
  | 0, c, N, hc, hw, _, _ => by omega
  | w + 1, c, N, hc, hw, hY, hb => by
    show ∃ N', YF (tP 1) N N' ∧ gA N' 28 = gA N 28 ∧ _ ∧ ((bX12_comesOn_151 n0 (yoC n0 w) x2 (nI c) N = _ ∧ _) ∨ (bX12_comesOn_151 n0 (yoC n0 w) x2 (nI c) N = _ ∧ _))
    obtain ⟨o1, o2, o3, _⟩ := hY.2.1
    have hbb := hY.2.2.1
    have o13 : ¬ oob (gI N 13) 2 := by rw [hY.2.2.2.1]; exact nI_in (by omega) (by decide)
    have y5 : gA N 5 (gI N 13).toNatClampNeg = nI T.nc := by rw [hY.2.2.2.1, nI_clamp (by omega)]; exact hY.2.2.2.2.2.1
    unfold bX12_comesOn_151
    by_cases g : c = T.nc
    · exact ⟨N, YF.r, rfl, fun _ _ => ⟨rfl, rfl⟩, Or.inl ⟨eq_f o13 (eq_t (by rw [y5, g]; exact Int32.le_refl _) rfl), fun j h1 h2 => by omega⟩⟩
    · have hcn : c < T.nc := by omega
      have ix : (2 : Int32) + 3 * nI c = nI (2 + 3 * c) := by rw [n3, show (2 : Int32) = nI 2 from rfl, nI_add]
      have st : ¬ gA N 5 (gI N 13).toNatClampNeg ≤ nI c := by rw [y5]; exact nI_ge hcn (by omega)
      have hN2 : ∃ N2, N2 = sA (sA N 29 (5 + c) (pIm bv c).1) 30 (5 + c) (nI (pIm bv c).2) := ⟨_, rfl⟩
      obtain ⟨N2, eN⟩ := hN2
      have f1 : YF (tP 1) N N2 := by rw [eN]; exact (YF.r.a (by unfold tP; omega)).a (by unfold tP; omega)
      have a28 : gA N2 28 = gA N 28 := by rw [eN, gA_sA_ne (by decide), gA_sA_ne (by decide)]
      have a29 : ∀ j, ¬ j = c → gA N2 29 (5 + j) = gA N 29 (5 + j) ∧ gA N2 30 (5 + j) = gA N 30 (5 + j) := fun j z => by
        rw [eN]
        exact ⟨by rw [gA_sA_ne (by decide), gA_sA, if_pos rfl, if_neg (by omega)], by rw [gA_sA, if_pos rfl, if_neg (by omega), gA_sA_ne (by decide)]⟩
      have b29 : gA N2 29 (5 + c) = (pIm bv c).1 ∧ gA N2 30 (5 + c) = nI (pIm bv c).2 := by
        rw [eN]
        exact ⟨by rw [gA_sA_ne (by decide), gA_sA, if_pos rfl, if_pos rfl], by rw [gA_sA, if_pos rfl, if_pos rfl]⟩
      rw [ix]
      have hcr := ycor (n0 := n0) hY h16 hb hs hcn
      rw [← eN] at hcr
      rcases hcr with ⟨e, k⟩ | ⟨e, k⟩
      · obtain ⟨N', r0, r1, r2, r3⟩ := yon151 (n0 := n0) (b := b) (x2 := x2) h16 hs w (c + 1) N2 (by omega) (by omega) (hY.yf f1 tP28) (by rw [eN, gA_sA_ne (by decide), gA_sA_ne (by decide)]; exact hb)
        refine ⟨N', f1.tr r0, r1.trans a28, fun j hj => ⟨((r2 j (by omega)).1).trans (a29 j (by omega)).1, ((r2 j (by omega)).2).trans (a29 j (by omega)).2⟩, ?_⟩
        have k1 : nI c + 1 = nI (c + 1) := nI_add c 1
        rcases r3 with ⟨s1, s2⟩ | ⟨s1, s2⟩
        · refine Or.inl ⟨eq_f o13 (eq_f st (eq_b e (eq_f (show ¬ (1 : Int32) = 0 by decide) (by rw [k1]; exact s1)))), fun j h1 h2 => ?_⟩
          by_cases z : j = c
          · rw [z]
            exact ⟨k, ((r2 c (by omega)).1).trans b29.1, ((r2 c (by omega)).2).trans b29.2⟩
          · exact s2 j (by omega) h2
        · exact Or.inr ⟨eq_f o13 (eq_f st (eq_b e (eq_f (show ¬ (1 : Int32) = 0 by decide) (by rw [k1]; exact s1)))), fun z => s2 (fun j h1 h2 => z j (by omega) h2)⟩
      · exact ⟨N2, f1, a28, fun j hj => a29 j (by omega), Or.inr ⟨eq_f o13 (eq_f st (eq_b e (eq_t rfl rfl))), fun z => k (z c (by omega) hcn)⟩⟩
abbrev yoD (n0 : Nat) : Nat → Int32 → Int32 → Mem → Option (Int32 × Mem) := loopN (bX12_comesOn_191 n0) (fun _ _ _ => none)
theorem yon191 {n0 b L : Nat} {T : TP} {bv : Nat → Nat} (h16 : L ≤ 1600) (hs : L = 2 + 3 * T.nc + T.nd + 1) : ∀ w d N, d ≤ T.nd → T.nd < w + d → YT n0 b T N → Bv (gA N 1) bv L → (∀ j, j < d → bv (2 + 3 * T.nc + j) ≤ 1) → gA N 31 1 = nI (Dn (fun j => bv (2 + 3 * T.nc + j)) d) → ∃ N', YF (fun a i => a = 31 ∧ i = 1) N N' ∧ ((yoD n0 w (nI (2 + 3 * T.nc)) (nI d) N = some (1, N') ∧ (∀ j, j < T.nd → bv (2 + 3 * T.nc + j) ≤ 1) ∧ gA N' 31 1 = nI (Dn (fun j => bv (2 + 3 * T.nc + j)) T.nd)) ∨ (yoD n0 w (nI (2 + 3 * T.nc)) (nI d) N = some (0, N') ∧ ¬ ∀ j, j < T.nd → bv (2 + 3 * T.nc + j) ≤ 1))
  | 0, d, N, hd, hw, _, _, _, _ => by omega
  | w + 1, d, N, hd, hw, hY, hb, hv, hD => by
    show ∃ N', YF (fun a i => a = 31 ∧ i = 1) N N' ∧ ((bX12_comesOn_191 n0 (yoD n0 w) (nI (2 + 3 * T.nc)) (nI d) N = _ ∧ _) ∨ (bX12_comesOn_191 n0 (yoD n0 w) (nI (2 + 3 * T.nc)) (nI d) N = _ ∧ _))
    obtain ⟨o1, o2, o3, _⟩ := hY.2.1
    have hbb := hY.2.2.1
    have o13 : ¬ oob (gI N 13) 2 := by rw [hY.2.2.2.1]; exact nI_in (by omega) (by decide)
    have y10 : gA N 10 (gI N 13).toNatClampNeg = nI T.nd := by rw [hY.2.2.2.1, nI_clamp (by omega)]; exact hY.2.2.2.2.2.2.1
    unfold bX12_comesOn_191
    by_cases g : d = T.nd
    · subst g
      exact ⟨N, YF.r, Or.inl ⟨eq_f o13 (eq_t (by rw [y10]; exact Int32.le_refl _) rfl), hv, hD⟩⟩
    · have hdn : d < T.nd := by omega
      have ci : (nI (2 + 3 * T.nc + d)).toNatClampNeg = 2 + 3 * T.nc + d := nI_clamp (by omega)
      obtain ⟨e0, b0⟩ := hb (2 + 3 * T.nc + d) (by omega)
      have st : ¬ gA N 10 (gI N 13).toNatClampNeg ≤ nI d := by rw [y10]; exact nI_ge hdn (by omega)
      have oi : ¬ oob (nI (2 + 3 * T.nc + d)) 1800 := nI_in (by omega) (by decide)
      rw [nI_add]
      by_cases z : bv (2 + 3 * T.nc + d) ≤ 1
      · have hN2 : ∃ N2, N2 = sA N 31 1 (nI (Dn (fun j => bv (2 + 3 * T.nc + j)) (d + 1))) := ⟨_, rfl⟩
        obtain ⟨N2, eN⟩ := hN2
        have f1 : YF (fun a i => a = 31 ∧ i = 1) N N2 := by rw [eN]; exact YF.r.a ⟨rfl, rfl⟩
        have dk := (Dn_ok (f := fun j => bv (2 + 3 * T.nc + j)) (n := d) (by omega) hv d (Nat.le_refl _)).1
        have p := p64 (n := d) (by omega)
        obtain ⟨N', r0, r1⟩ := yon191 (n0 := n0) (b := b) h16 hs w (d + 1) N2 (by omega) (by omega) (hY.yf f1 (fun a i y => by omega)) (by rw [eN, gA_sA_ne (by decide)]; exact hb) (fun j hj => by
          by_cases y : j = d
          · rw [y]; exact z
          · exact hv j (by omega)) (by rw [eN, gA_sA, if_pos rfl, if_pos rfl])
        have k1 : nI d + 1 = nI (d + 1) := nI_add d 1
        have gg : ∀ r, yoD n0 w (nI (2 + 3 * T.nc)) (nI (d + 1)) N2 = r → (if oob (gI N 13) 2 then none else if (gA N 10 (Int32.toNatClampNeg (gI N 13))) ≤ nI d then some ((1 : Int32), N) else if oob (nI (2 + 3 * T.nc + d)) 1800 then none else if (gA N 1 (Int32.toNatClampNeg (nI (2 + 3 * T.nc + d)))) ≤ (1 : Int32) then if oob (1 : Int32) 22 then none else if oob (nI (2 + 3 * T.nc + d)) 1800 then none else if oob (1 : Int32) 22 then none else bnd (sA N 31 (Int32.toNatClampNeg (1 : Int32)) ((gA N 31 (Int32.toNatClampNeg (1 : Int32))) ||| ((gA N 1 (Int32.toNatClampNeg (nI (2 + 3 * T.nc + d)))) <<< (nI d &&& 31)))) fun M240 => yoD n0 w (nI (2 + 3 * T.nc)) (nI d + (1 : Int32)) M240 else some ((0 : Int32), N)) = r := fun r hr => by
          refine eq_f o13 (eq_f st (eq_f oi (eq_t (by rw [ci, e0]; exact nI_le (b := 1) z (by decide)) (eq_f (by decide) (eq_f oi (eq_f (by decide) (eq_e (v' := N2) ?_ ?_)))))))
          · show sA N 31 1 (gA N 31 1 ||| _) = _
            rw [ci, e0, hD, bt_on1 d (by omega) _ (by omega) dk _ (by omega), eN]
            rfl
          · rw [k1]; exact hr
        refine ⟨N', f1.tr r0, ?_⟩
        rcases r1 with ⟨s1, s2⟩ | ⟨s1, s2⟩
        · exact Or.inl ⟨gg _ s1, s2⟩
        · exact Or.inr ⟨gg _ s1, s2⟩
      · exact ⟨N, YF.r, Or.inr ⟨eq_f o13 (eq_f st (eq_f oi (eq_f (by rw [ci, e0]; exact nI_ge (a := 1) (by omega) (by omega)) rfl))), fun y => z (y d hdn)⟩⟩
abbrev yoS (n0 : Nat) : Nat → Int32 → Int32 → Int32 → Int32 → Mem → Option (Int32 × Mem) := loopN (bX12_comesOn_62 n0) (fun _ _ _ _ _ => none)
theorem yon62 {n0 L : Nat} {bv : Nat → Nat} {x2 : Int32} {N : Mem} (h16 : L ≤ 1600) (hL : 1 ≤ L) (hb : Bv (gA N 1) bv L) : ∀ w k, k ≤ L - 1 → L - 1 < w + k → yoS n0 w (nI L) x2 (nI (ckN bv k)) (nI k) N = yoS n0 1 (nI L) x2 (nI (ckN bv (L - 1))) (nI (L - 1)) N
  | 0, k, hk, hw => by omega
  | w + 1, k, hk, hw => by
    have l1 : nI L - 1 = nI (L - 1) := by
      rw [show L = (L - 1) + 1 by omega]
      exact nIs _
    by_cases g : k = L - 1
    · rw [g]
      show bX12_comesOn_62 n0 (yoS n0 w) (nI L) x2 (nI (ckN bv (L - 1))) (nI (L - 1)) N = bX12_comesOn_62 n0 (yoS n0 0) (nI L) x2 (nI (ckN bv (L - 1))) (nI (L - 1)) N
      unfold bX12_comesOn_62
      rw [l1, if_pos (Int32.le_refl _), if_pos (Int32.le_refl _)]
    · show bX12_comesOn_62 n0 (yoS n0 w) (nI L) x2 (nI (ckN bv k)) (nI k) N = _
      have ck : (nI k).toNatClampNeg = k := nI_clamp (by omega)
      obtain ⟨e0, b0⟩ := hb k (by omega)
      have ih := yon62 (n0 := n0) (x2 := x2) h16 hL hb w (k + 1) (by omega) (by omega)
      rw [← ih]
      unfold bX12_comesOn_62
      refine eq_f (by rw [l1]; exact nI_ge (by omega) (by omega)) (eq_f (nI_in (by omega) (by decide)) (eq_f (by decide) (eq_e (v' := nI (ckN bv (k + 1))) (by rw [ck, e0, ck1 (by omega)]) ?_)))
      rw [show nI k + 1 = nI (k + 1) from nI_add k 1]
theorem ycomes {n0 b m L : Nat} {T : TP} {pm : Nat → Int32 × Nat} {s : Nat × List (Nat × Nat)} {bv : Nat → Nat} {N : Mem} (hn : 1700 ≤ n0) (hY : YT n0 b T N) (hLy : LyD 0 T.nc m pm s N) (hs : sOk T.nd s) (h16 : L ≤ 1600) (hb : Bv (gA N 1) bv L) :
    (∃ N', fX12_comesOn n0 (nI L) N = some (1, N') ∧ isIm T bv L ∧ LyD 1 T.nc (256 * bv 0 + bv 1) (pIm bv) (Dn (fun j => bv (2 + 3 * T.nc + j)) T.nd, []) N' ∧ YF (lP 1) N N') ∨
    (∃ N', fX12_comesOn n0 (nI L) N = some (0, N') ∧ ¬ isIm T bv L ∧ YF (lP 1) N N') := by
  obtain ⟨o1, o2, o3, _⟩ := hY.2.1
  have hbb := hY.2.2.1
  have hl := hs.l
  have o13 : ¬ oob (gI N 13) 2 := by rw [hY.2.2.2.1]; exact nI_in (by omega) (by decide)
  have y5 : gA N 5 (gI N 13).toNatClampNeg = nI T.nc := by rw [hY.2.2.2.1, nI_clamp (by omega)]; exact hY.2.2.2.2.2.1
  have y10 : gA N 10 (gI N 13).toNatClampNeg = nI T.nd := by rw [hY.2.2.2.1, nI_clamp (by omega)]; exact hY.2.2.2.2.2.2.1
  have ix : (2 : Int32) + 3 * gA N 5 (gI N 13).toNatClampNeg = nI (2 + 3 * T.nc) := by rw [y5, n3, show (2 : Int32) = nI 2 from rfl, nI_add]
  have ez : nI (2 + 3 * T.nc) + gA N 10 (gI N 13).toNatClampNeg + 1 = nI (2 + 3 * T.nc + T.nd + 1) := by rw [y10, nI_add]; exact nI_add _ 1
  by_cases g1 : L = 2 + 3 * T.nc + T.nd + 1
  · obtain ⟨e0, b0⟩ := hb 0 (by omega)
    obtain ⟨e1, b1⟩ := hb 1 (by omega)
    have hp : (gA N 1 (Int32.toNatClampNeg 0) <<< ((8 : Int32) &&& 31)) ||| gA N 1 (Int32.toNatClampNeg 1) = nI (256 * bv 0 + bv 1) := by
      show (gA N 1 0 <<< _) ||| gA N 1 1 = _
      rw [e0, e1, pair8 b0 b1]
    have l1 : nI L - 1 = nI (L - 1) := by
      rw [show L = (L - 1) + 1 by omega]
      exact nIs _
    by_cases g2 : 256 * bv 0 + bv 1 ≤ 9999
    · have st : ∀ r, yoS n0 1 (nI L) (nI (2 + 3 * T.nc)) (nI (ckN bv (L - 1))) (nI (L - 1)) N = r → fX12_comesOn n0 (nI L) N = r := fun r hr => by
        unfold fX12_comesOn
        refine eq_f o13 (eq_e ix (eq_f o13 (eq_t (by rw [ez, g1]) (eq_f (by decide) (eq_f (by decide) (eq_t (by rw [hp]; exact nI_le (b := 9999) g2 (by decide)) ?_))))))
        exact (yon62 (n0 := n0) (x2 := nI (2 + 3 * T.nc)) h16 (by omega) hb n0 0 (by omega) (by omega)).trans hr
      obtain ⟨e3, b3⟩ := hb (L - 1) (by omega)
      have c3 := ckN_lt bv (L - 1)
      have cl : (nI (L - 1)).toNatClampNeg = L - 1 := nI_clamp (by omega)
      have ol : ¬ oob (nI L - 1) 1800 := by rw [l1]; exact nI_in (by omega) (by decide)
      by_cases g3 : bv (L - 1) = ckN bv (L - 1)
      · obtain ⟨N1, k1, k2, k3, k4, k5, k6, k7⟩ := ycopy (n0 := n0) (v := 1) (u := 0) (kn := s.2.length) (M := N) hn (by decide) (by decide) (by decide) (by omega) hLy.2.2.1
        have hN2 : ∃ N2, N2 = sA (sA (sA N1 28 1 (nI (256 * bv 0 + bv 1))) 31 1 0) 32 1 0 := ⟨_, rfl⟩
        obtain ⟨N2, eN⟩ := hN2
        have f2 : YF (lP 1) N N2 := by
          rw [eN]
          exact ((k7.a (by unfold lP tP; omega)).a (by unfold lP dP; omega)).a (by unfold lP dP; omega)
        have t1 : gA N1 1 = gA N 1 := k7.gA (fun i y => by unfold lP tP dP at y; omega) (by decide)
        have t2 : gA N2 1 = gA N 1 := f2.gA (fun i y => by unfold lP tP dP at y; omega) (by decide)
        have hb2 : Bv (gA N2 1) bv L := by rw [t2]; exact hb
        have s62 : yoS n0 1 (nI L) (nI (2 + 3 * T.nc)) (nI (ckN bv (L - 1))) (nI (L - 1)) N = fX12_comesOn_151 n0 (nI (2 + 3 * T.nc)) 0 N2 := by
          show bX12_comesOn_62 n0 (yoS n0 0) (nI L) (nI (2 + 3 * T.nc)) (nI (ckN bv (L - 1))) (nI (L - 1)) N = _
          unfold bX12_comesOn_62
          refine eq_t (by rw [l1]; exact Int32.le_refl _) (eq_f ol (eq_t (by rw [l1, cl, e3, g3]) (eq_b k1 (eq_f (by decide) (eq_f (by decide) (eq_f (by decide) (eq_e (v' := sA N1 28 1 (nI (256 * bv 0 + bv 1))) ?_ (eq_f (by decide) (eq_n (eq_f (by decide) (eq_e (v' := N2) (by rw [eN]; rfl) rfl)))))))))))
          rw [t1, hp]
          rfl
        obtain ⟨N3, q0, q1, _, q3⟩ := yon151 (n0 := n0) (b := b) (x2 := nI (2 + 3 * T.nc)) h16 g1 n0 0 N2 (by omega) (by omega) (hY.yf f2 lP28) hb2
        have f3 : YF (lP 1) N N3 := f2.tr (q0.wk (fun a i y => Or.inl y))
        rcases q3 with ⟨s1, s2⟩ | ⟨s1, s2⟩
        · have a31 : gA N3 31 1 = nI (Dn (fun j => bv (2 + 3 * T.nc + j)) 0) := by
            rw [q0.2.2.2.1 31 1 (by decide) (fun y => by unfold tP at y; omega), eN, gA_sA_ne (by decide), gA_sA, if_pos rfl, if_pos rfl]
            rfl
          have a32 : gA N3 32 1 = 0 := by
            rw [q0.2.2.2.1 32 1 (by decide) (fun y => by unfold tP at y; omega), eN, gA_sA, if_pos rfl, if_pos rfl]
          have t3 : gA N3 1 = gA N 1 := f3.gA (fun i y => by unfold lP tP dP at y; omega) (by decide)
          obtain ⟨N4, u0, u1⟩ := yon191 (n0 := n0) (b := b) (T := T) (bv := bv) h16 g1 n0 0 N3 (by omega) (by omega) (hY.yf f3 lP28) (by rw [t3]; exact hb) (fun j hj => by omega) a31
          have f4 : YF (lP 1) N N4 := f3.tr (u0.wk (fun a i y => by unfold lP dP; omega))
          rcases u1 with ⟨v1, v2, v3⟩ | ⟨v1, v2⟩
          · refine Or.inl ⟨N4, st _ (s62.trans (s1.trans v1)), ⟨g1, g2, fun j hj => (s2 j (by omega) hj).1, v2, g3⟩, ⟨⟨?_, fun c hc => ?_⟩, v3, ?_, fun i p hp => by simp at hp⟩, f4⟩
            · rw [u0.2.2.2.1 28 1 (by decide) (fun y => by omega), q1, eN, gA_sA_ne (by decide), gA_sA_ne (by decide), gA_sA, if_pos rfl, if_pos rfl]
            · rw [u0.2.2.2.1 29 _ (by decide) (fun y => by omega), u0.2.2.2.1 30 _ (by decide) (fun y => by omega)]
              exact (s2 c (by omega) hc).2
            · rw [u0.2.2.2.1 32 1 (by decide) (fun y => by omega), a32]
              rfl
          · exact Or.inr ⟨N4, st _ (s62.trans (s1.trans v1)), fun y => v2 y.2.2.2.1, f4⟩
        · exact Or.inr ⟨N3, st _ (s62.trans s1), fun y => s2 (fun j _ hj => y.2.2.1 j hj), f3⟩
      · refine Or.inr ⟨N, st _ ?_, fun y => g3 y.2.2.2.2, YF.r⟩
        show bX12_comesOn_62 n0 (yoS n0 0) (nI L) (nI (2 + 3 * T.nc)) (nI (ckN bv (L - 1))) (nI (L - 1)) N = _
        unfold bX12_comesOn_62
        exact eq_t (by rw [l1]; exact Int32.le_refl _) (eq_f ol (eq_f (by rw [l1, cl, e3]; exact fun y => g3 ((nI_eq (by omega) (by omega)).mp y)) rfl))
    · refine Or.inr ⟨N, ?_, fun y => g2 y.2.1, YF.r⟩
      unfold fX12_comesOn
      exact eq_f o13 (eq_e ix (eq_f o13 (eq_t (by rw [ez, g1]) (eq_f (by decide) (eq_f (by decide) (eq_f (by rw [hp]; exact nI_ge (a := 9999) (by omega) (by omega)) rfl))))))
  · refine Or.inr ⟨N, ?_, fun y => g1 y.1, YF.r⟩
    unfold fX12_comesOn
    exact eq_f o13 (eq_e ix (eq_f o13 (eq_f (by rw [ez]; exact fun y => g1 ((nI_eq (by omega) (by omega)).mp y)) rfl)))
theorem cOn {n0 : Nat} {MX MY : Mem} (hn : 1700 ≤ n0) (h : R n0 MX MY) : Cal n0 (fX11_on n0 MX) (fX12_on n0 MY) := by
  have hg := h.gone
  obtain ⟨q, b, T, nr, C, m, pm, s, h⟩ := h
  obtain ⟨h1, h2, h3, h4, h5, h6, h7⟩ := id h
  obtain ⟨o1, o2, o3, _⟩ := h1.2.2.2.1.2.1
  have hl := h2.2.2.l
  obtain ⟨L, l1, l2, l3, l4, l5⟩ := h7.2.2.2.2.1
  have hbx : Bv (gA MX 6) (fun i => (gA MX 6 i).toNatClampNeg) L := byt_bv l5
  have hbv : ∃ bv, bv = fun i => (gA MX 6 i).toNatClampNeg := ⟨_, rfl⟩
  obtain ⟨bv, ebv⟩ := hbv
  rw [← ebv] at hbx
  have hby : Bv (gA (sI MY 1 0) 1) bv L := by
    show Bv (gA MY 1) bv L
    rw [l4]
    exact hbx
  have hY1 : YT n0 b T (sI MY 1 0) := h1.2.2.2.2.1.tw yTw.r (gI_ne (by decide))
  rcases ycomes (n0 := n0) (b := b) (m := m) (pm := pm) (s := s) hn hY1 h4 h2.2.2 l1 hby with ⟨N1, k1, k2, k3, k4⟩ | ⟨N1, k1, k2, k4⟩
  · rcases xisIm (n0 := n0) hn h1.2.2.2.1 h3.2.1 l2 l1 hbx with ⟨x1, _⟩ | ⟨_, x2⟩
    · obtain ⟨i1, i2, i3, i4, i5⟩ := k2
      -- the class
      have hX1 : ∃ X1, X1 = sI (sI MX 1281 (nI (256 * bv 0 + bv 1))) 1285 0 := ⟨_, rfl⟩
      obtain ⟨X1, eX⟩ := hX1
      have xq : gR X1 1280 = q := by rw [eX]; exact h3.2.1
      obtain ⟨X2, a1, a2, a3, a4, a5, a6, a7, a8⟩ := xrd16 (n0 := n0) (nc := T.nc) (nd := T.nd) (bv := bv) hn o2 o3 l1 i1 n0 0 X1 (by omega) (by omega) (by rw [xq, eX, gI_ne (by rcases h1.1 with z | z <;> omega), gI_ne (by rcases h1.1 with z | z <;> omega)]; exact h1.2.2.2.1.2.2.1) (by rw [xq, eX, gI_ne (by rcases h1.1 with z | z <;> omega), gI_ne (by rcases h1.1 with z | z <;> omega)]; exact h1.2.2.2.1.2.2.2.1) (by rw [eX, gI_ne (by decide), gI_ne (by decide)]; exact l2) (by rw [eX]; exact hbx)
      have cx : fX11_on n0 MX = some (1, sI (sI X2 2050 0) 641 0) := by
        unfold fX11_on
        refine eq_b x1 (eq_f (show ¬ (1 : Int32) = 0 by decide) (eq_b (z := X2) ?_ ?_))
        · unfold fX6_readImage
          refine eq_b (z := (nI (256 * bv 0 + bv 1), MX)) (xpair (n0 := n0) l2 l1 hbx (i := 0) (by omega)) (eq_n (eq_e (v' := X1) (by rw [eX]) a1))
        · unfold fX11_on_44
          exact eq_n (eq_t (Or.inr rfl) rfl)
      -- the reference
      obtain ⟨N2, c1, c2, c3⟩ := ycopyD (n0 := n0) (v := 0) (u := 1) (M := N1) hn (by decide) (by decide) (by decide) o2 (Nat.zero_le _) k3
      have cy : fX12_on n0 MY = some (1, sI N2 54 0) := by
        unfold fX12_on
        exact eq_e l3 (eq_n (eq_b k1 (eq_f (show ¬ (1 : Int32) = 0 by decide) (eq_b c1 rfl))))
      have dk := Dn_ok (f := fun j => bv (2 + 3 * T.nc + j)) (n := T.nd) o3 i4 T.nd (Nat.le_refl _)
      have xI : ∀ k, ¬ (k = 641 ∨ k = 2050 ∨ k = 1281 ∨ k = 1285) → gI (sI (sI X2 2050 0) 641 0) k = gI MX k := fun k z => by rw [gI_ne (by omega), gI_ne (by omega), a7, eX, gI_ne (by omega), gI_ne (by omega)]
      have xA : ∀ a, ¬ (a = 11 ∨ a = 12 ∨ a = 13) → gA X2 a = gA MX a := fun a z => by
        funext i
        rw [a8 a i (by omega), eX]
        rfl
      have xR : gR X2 = gR MX := by rw [a4, eX]; rfl
      have yI : ∀ k, ¬ (k = 1 ∨ k = 54) → gI (sI N2 54 0) k = gI MY k := fun k z => by rw [gI_ne (by omega), c3.2.2.1, k4.2.2.1, gI_ne (by omega)]
      have yA : ∀ a i, ¬ a = 35 → ¬ lP 0 a i → ¬ lP 1 a i → gA N2 a i = gA MY a i := fun a i z0 z1 z2 => by rw [c3.2.2.2.1 a i z0 z1, k4.2.2.2.1 a i z0 z2]; rfl
      have yA2 : ∀ a, ¬ (28 ≤ a ∧ a ≤ 33) → ¬ a = 35 → gA N2 a = gA MY a := fun a z1 z2 => by
        funext i
        exact yA a i z2 (fun z => by unfold lP tP dP at z; omega) (fun z => by unfold lP tP dP at z; omega)
      refine ⟨1, _, _, cx, cy, q, b, T, nr, C, 256 * bv 0 + bv 1, pIm bv, (Dn (fun j => bv (2 + 3 * T.nc + j)) T.nd, []), h1.cgs xR (fun k z => xI k (by omega)) (fun a z1 z2 => xA a (by omega)) (yI 13 (by decide)) (fun a z1 z2 => yA2 a (by omega) (by omega)) (fun a z1 z2 => by show gB N2 a = _; rw [c3.2.2.2.2 a (by omega), k4.2.2.2.2 a (by omega)]; rfl), ⟨i2, fun c hc => ?_, dk.1, Nat.zero_le _⟩, ?_, c2, ?_, h6.cg (xI 2688 (by decide)) (yI 61 (by decide)) (fun a z1 z2 => xA a (by omega)) (fun a z1 z2 => yA2 a (by omega) (by omega)), ?_⟩
      · have k := i3 c hc
        refine ⟨?_, k.2⟩
        show tOk T.nt (if bv (2 + 3 * c) = 255 then -1 else nI (bv (2 + 3 * c)))
        by_cases z : bv (2 + 3 * c) = 255
        · rw [if_pos z]; exact Or.inl rfl
        · rw [if_neg z]; exact Or.inr ⟨_, k.1.resolve_left z, rfl⟩
      · refine ⟨by show gR X2 896 = q; rw [xR]; exact h3.1, by show gR X2 1280 = q; rw [xR]; exact h3.2.1, ?_, fun c hc => a2 c (by omega) hc, fun d hd => ?_, ?_, fun i p hp => by simp at hp⟩
        · rw [gI_ne (by decide), gI_ne (by decide), a7, eX, gI_ne (by decide), gI_at]
        · show gA X2 13 d = _
          rw [a3 d hd, dk.2 d hd]
        · rw [gI_ne (by decide), gI_ne (by decide), a7, eX, gI_at]
          rfl
      · obtain ⟨x0, f, u, e, p1, p2, p3, p4, p5, p6, p7, p8, p9⟩ := h5
        refine ⟨(x0 + u) % 20, f, 0, e, by omega, p2, by omega, ?_, ?_, ?_, ?_, fun i hi => by omega, fun i j _ hj => by omega⟩
        · rw [xI 2049 (by decide), p4]; congr 1; omega
        · rw [gI_ne (by decide), gI_at]; rfl
        · rw [yI 53 (by decide)]; exact p6
        · rw [gI_at]; rfl
      · obtain ⟨p1, p2, p3, p4, p5, p6⟩ := h7
        refine ⟨p1.cg (xI 17 (by decide)) (by show gL N2 55 = _; rw [c3.2.1, k4.2.1]; rfl), p2.cg (xI 14 (by decide)) (yI 67 (by decide)) (xA 29 (by omega)) (yA2 43 (by omega) (by omega)), p3.cg (xA 30 (by omega)) (yA2 27 (by omega) (by omega)), p4.cg (xI 15 (by decide)) (xI 16 (by decide)) (yI 10 (by decide)) (yI 11 (by decide)), ⟨0, by omega, gI_at, ?_, ?_, fun i hi => by omega⟩, p6.cg (xA 4 (by omega))⟩
        · rw [gI_ne (by decide), c3.2.2.1, k4.2.2.1, gI_at]; rfl
        · show gA N2 1 = gA X2 6
          rw [yA2 1 (by omega) (by omega), xA 6 (by omega)]
          exact l4
    · exact absurd k2 x2
  · rcases xisIm (n0 := n0) hn h1.2.2.2.1 h3.2.1 l2 l1 hbx with ⟨_, x2⟩ | ⟨x1, _⟩
    · exact absurd x2 k2
    · have hR : R n0 (sI MX 641 0) N1 := by
        obtain ⟨q', b', T', nr', C', m', pm', s', hg⟩ := hg
        exact ⟨q', b', T', nr', C', m', pm', s', hg.scr XF.r (k4.wk (fun a i z => Or.inl z))⟩
      refine Cal.ref (k := 5) (r := 0) hR (by decide) ?_ ?_
      · unfold fX11_on
        refine eq_b x1 (eq_t rfl (eq_b (xref (k := 5) (by decide)) ?_))
        unfold fX11_on_44
        exact eq_n (eq_t (Or.inl rfl) rfl)
      · unfold fX12_on
        exact eq_e l3 (eq_n (eq_b k1 (eq_t rfl (eq_b (yref (k := 5) (by decide)) (eq_t (show (-1 : Int32) < 0 by decide) rfl)))))
