/-! WHAT WAS SEEN, ON BOTH SIDES -/
theorem byt_v {t : Nat → Int32} {L i : Nat} (h : Byt t L) (hi : i < L) : ∃ v, v ≤ 255 ∧ t i = nI v := by
  obtain ⟨j, _, h2, e⟩ := in_nI (a := 0) (b := 255) (by decide) (h i hi) (by decide)
  exact ⟨j, h2, e⟩
def gdS (t : Nat → Int32) (nc k : Nat) : Prop := ∃ a c h, a ≤ 40 ∧ c < nc ∧ h ≤ 23 ∧ t (3 * k) = nI a ∧ t (3 * k + 1) = nI c ∧ t (3 * k + 2) = nI h
theorem n3 (k : Nat) : (3 : Int32) * nI k = nI (3 * k) := by rw [show (3 : Int32) = nI 3 from rfl, nI_mul]
abbrev xsL (n0 q : Nat) : Nat → Int32 → Int32 → Mem → Option (Int32 × Mem) := loopN (bX5_read_33 n0 q) (fun _ _ _ => none)
abbrev ysL (n0 : Nat) : Nat → Int32 → Int32 → Int32 → Mem → Option (Int32 × Mem) := loopN (bX12_see_34 n0) (fun _ _ _ _ => none)
theorem seeL {n0 q b rows nc : Nat} {MX MY : Mem} (h5 : nc ≤ 5) (hb : b ≤ 1) (x641 : gI MX 641 = nI (3 * rows)) (h16 : rows ≤ 16) (hby : Byt (gA MX 6) (3 * rows)) (hT : gA MY 1 = gA MX 6) (xq : gI MX (128 * q + 5) = nI nc) (h13 : gI MY 13 = nI b) (y5 : gA MY 5 b = nI nc) : ∀ w k, k ≤ rows → rows + 1 < w + k →
    (xsL n0 q w (nI rows) (nI k) MX = fX5_read_107 n0 q (nI rows) 0 MX ∧ ysL n0 w (nI (3 * rows)) 1 (nI (3 * k)) MY = fX12_see_94 n0 (nI (3 * rows)) 1 MY ∧ ∀ j, k ≤ j → j < rows → gdS (gA MX 6) nc j) ∨
    (xsL n0 q w (nI rows) (nI k) MX = some (0, MX) ∧ ysL n0 w (nI (3 * rows)) 1 (nI (3 * k)) MY = fX12_see_94 n0 (nI (3 * rows)) 0 MY)
  | 0, k, hk, hw => by omega
  | w + 1, k, hk, hw => by
    show (bX5_read_33 n0 q (xsL n0 q w) (nI rows) (nI k) MX = _ ∧ bX12_see_34 n0 (ysL n0 w) (nI (3 * rows)) 1 (nI (3 * k)) MY = _ ∧ _) ∨ (bX5_read_33 n0 q (xsL n0 q w) (nI rows) (nI k) MX = _ ∧ bX12_see_34 n0 (ysL n0 w) (nI (3 * rows)) 1 (nI (3 * k)) MY = _)
    by_cases g : k = rows
    · refine Or.inl ⟨?_, ?_, fun j h1 h2 => by omega⟩
      · unfold bX5_read_33
        exact eq_t (by rw [g]; exact Int32.le_refl _) rfl
      · unfold bX12_see_34
        exact eq_t (by rw [g]; exact Int32.le_refl _) rfl
    · have hx : ¬ nI rows ≤ nI k := nI_ge (by omega) (by omega)
      have hy : ¬ nI (3 * rows) ≤ nI (3 * k) := nI_ge (by omega) (by omega)
      obtain ⟨v0, p0, e0⟩ := byt_v hby (i := 3 * k) (by omega)
      obtain ⟨v1, p1, e1⟩ := byt_v hby (i := 3 * k + 1) (by omega)
      obtain ⟨v2, p2, e2⟩ := byt_v hby (i := 3 * k + 2) (by omega)
      have k0 : (nI (3 * k)).toNatClampNeg = 3 * k := nI_clamp (by omega)
      have k1 : (nI (3 * k + 1)).toNatClampNeg = 3 * k + 1 := nI_clamp (by omega)
      have k2 : (nI (3 * k + 2)).toNatClampNeg = 3 * k + 2 := nI_clamp (by omega)
      have i1 : nI (3 * k) + 1 = nI (3 * k + 1) := nI_add _ 1
      have i2 : nI (3 * k) + 2 = nI (3 * k + 2) := nI_add _ 2
      have i3 : nI (3 * k) + 3 = nI (3 * (k + 1)) := by rw [show nI (3 * k) + 3 = nI (3 * k + 3) from nI_add _ 3, Nat.mul_add]
      have c1 : nI k + 1 = nI (k + 1) := nI_add k 1
      have a0 : fX7_at n0 (nI (3 * k)) MX = some (nI v0, MX) := by rw [xat x641 (by omega) (by omega), e0]
      have a1 : fX7_at n0 (nI (3 * k + 1)) MX = some (nI v1, MX) := by rw [xat x641 (by omega) (by omega), e1]
      have a2 : fX7_at n0 (nI (3 * k + 2)) MX = some (nI v2, MX) := by rw [xat x641 (by omega) (by omega), e2]
      have badY : fX12_see_86 n0 (ysL n0 w) (nI (3 * rows)) (nI (3 * k)) MY = fX12_see_94 n0 (nI (3 * rows)) 0 MY := by
        unfold fX12_see_86 fX12_see_87
        rw [i3]
        obtain ⟨w', rfl⟩ : ∃ w', w = w' + 1 := ⟨w - 1, by omega⟩
        show bX12_see_34 n0 (ysL n0 w') (nI (3 * rows)) 0 (nI (3 * (k + 1))) MY = _
        unfold bX12_see_34
        by_cases z : nI (3 * rows) ≤ nI (3 * (k + 1))
        · exact eq_t z rfl
        · exact eq_f z (eq_t rfl rfl)
      have badX : fX5_read_73 n0 q (xsL n0 q w) (nI rows) (nI k) MX = some (0, MX) := by
        unfold fX5_read_73 fX5_read_74
        exact eq_t rfl rfl
      have y0 : gA MY 1 (nI (3 * k)).toNatClampNeg = nI v0 := by rw [k0, hT, e0]
      have y1 : gA MY 1 (nI (3 * k) + 1).toNatClampNeg = nI v1 := by rw [i1, k1, hT, e1]
      have y2 : gA MY 1 (nI (3 * k) + 2).toNatClampNeg = nI v2 := by rw [i2, k2, hT, e2]
      have o0 : ¬ oob (nI (3 * k)) 1800 := nI_in (by omega) (by decide)
      have o1 : ¬ oob (nI (3 * k) + 1) 1800 := by rw [i1]; exact nI_in (by omega) (by decide)
      have o2 : ¬ oob (nI (3 * k) + 2) 1800 := by rw [i2]; exact nI_in (by omega) (by decide)
      by_cases b0 : v0 ≤ 40
      · have q0 : ¬ (40 : Int32) < nI v0 := fun z => by have := (nI_ltI (a := 40) (by decide) (by omega)).mp z; omega
        by_cases b1 : v1 < nc
        · by_cases b2 : v2 ≤ 23
          · have q2 : ¬ (23 : Int32) < nI v2 := fun z => by have := (nI_ltI (a := 23) (by decide) (by omega)).mp z; omega
            have sx : bX5_read_33 n0 q (xsL n0 q w) (nI rows) (nI k) MX = xsL n0 q w (nI rows) (nI (k + 1)) MX := by
              unfold bX5_read_33
              simp only [n3, i1]
              refine eq_f hx (eq_b a0 (eq_f q0 (eq_b a1 (eq_b (xCot xq (by omega) b1) (eq_f (show ¬ (1 : Int32) = 0 by decide) ?_)))))
              unfold fX5_read_74
              simp only [n3, i2]
              refine eq_f (by decide) (eq_b a2 (eq_t (nI_le (b := 23) b2 (by decide)) ?_))
              rw [c1]
            have sy : bX12_see_34 n0 (ysL n0 w) (nI (3 * rows)) 1 (nI (3 * k)) MY = ysL n0 w (nI (3 * rows)) 1 (nI (3 * (k + 1))) MY := by
              unfold bX12_see_34
              refine eq_f hy (eq_f (by decide) (eq_f o0 (eq_f (by rw [y0]; exact q0) (eq_f o1 (eq_b (by rw [y1]; exact yCot h13 hb y5 (by omega) b1) (eq_f (show ¬ (1 : Int32) = 0 by decide) (eq_f o2 (eq_f (by rw [y2]; exact q2) ?_))))))))
              unfold fX12_see_87
              rw [i3]
            rw [sx, sy]
            rcases seeL h5 hb x641 h16 hby hT xq h13 y5 w (k + 1) (by omega) (by omega) with ⟨r1, r2, r3⟩ | ⟨r1, r2⟩
            · refine Or.inl ⟨r1, r2, fun j h1 h2 => ?_⟩
              by_cases z : j = k
              · rw [z]
                exact ⟨v0, v1, v2, b0, b1, b2, e0, e1, e2⟩
              · exact r3 j (by omega) h2
            · exact Or.inr ⟨r1, r2⟩
          · refine Or.inr ⟨?_, ?_⟩
            · unfold bX5_read_33
              simp only [n3, i1]
              refine eq_f hx (eq_b a0 (eq_f q0 (eq_b a1 (eq_b (xCot xq (by omega) b1) (eq_f (show ¬ (1 : Int32) = 0 by decide) ?_)))))
              unfold fX5_read_74
              simp only [n3, i2]
              exact eq_f (by decide) (eq_b a2 (eq_f (nI_ge (a := 23) (by omega) (by omega)) rfl))
            · unfold bX12_see_34
              exact eq_f hy (eq_f (by decide) (eq_f o0 (eq_f (by rw [y0]; exact q0) (eq_f o1 (eq_b (by rw [y1]; exact yCot h13 hb y5 (by omega) b1) (eq_f (show ¬ (1 : Int32) = 0 by decide) (eq_f o2 (eq_t (by rw [y2]; exact nI_lt (a := 23) (by omega) (by omega)) badY))))))))
        · have zz : nI v1 < 0 ∨ nI nc ≤ nI v1 := Or.inr (nI_le (by omega) (by omega))
          refine Or.inr ⟨?_, ?_⟩
          · unfold bX5_read_33
            simp only [n3, i1]
            exact eq_f hx (eq_b a0 (eq_f q0 (eq_b a1 (eq_b (xCof xq zz) (eq_t rfl badX)))))
          · unfold bX12_see_34
            exact eq_f hy (eq_f (by decide) (eq_f o0 (eq_f (by rw [y0]; exact q0) (eq_f o1 (eq_b (by rw [y1]; exact yCof h13 hb y5 zz) (eq_t rfl badY))))))
      · have q0 : (40 : Int32) < nI v0 := nI_lt (a := 40) (by omega) (by omega)
        refine Or.inr ⟨?_, ?_⟩
        · unfold bX5_read_33
          simp only [n3]
          exact eq_f hx (eq_b a0 (eq_t q0 badX))
        · unfold bX12_see_34
          exact eq_f hy (eq_f (by decide) (eq_f o0 (eq_t (by rw [y0]; exact q0) badY)))
abbrev xcL (n0 q : Nat) : Nat → Int32 → Int32 → Mem → Option (Int32 × Mem) := loopN (bX5_read_107 n0 q) (fun _ _ _ => none)
theorem xsee {n0 q rows : Nat} (h16 : rows ≤ 16) : ∀ w k M, k ≤ rows → rows < w + k → gI M 641 = nI (3 * rows) → ∃ M', xcL n0 q w (nI rows) (nI k) M = some (1, sI M' 2688 (nI rows)) ∧ (∀ j, k ≤ j → j < rows → gA M' 22 j = gA M 6 (3 * j) ∧ gA M' 23 j = gA M 6 (3 * j + 1) ∧ gA M' 24 j = gA M 6 (3 * j + 2)) ∧ gR M' = gR M ∧ gL M' = gL M ∧ gB M' = gB M ∧ gI M' = gI M ∧ ∀ a i, ¬ (22 ≤ a ∧ a ≤ 24 ∧ k ≤ i) → gA M' a i = gA M a i
  | 0, k, M, hk, hw, _ => by omega
  | w + 1, k, M, hk, hw, hL => by
    show ∃ M', bX5_read_107 n0 q (xcL n0 q w) (nI rows) (nI k) M = _ ∧ _
    unfold bX5_read_107
    by_cases g : k = rows
    · exact ⟨M, eq_t (by rw [g]; exact Int32.le_refl _) rfl, fun j h1 h2 => by omega, rfl, rfl, rfl, rfl, fun _ _ _ => rfl⟩
    · have ck : (nI k).toNatClampNeg = k := nI_clamp (by omega)
      have ok : ¬ oob (nI k) 16 := nI_in (by omega) (by decide)
      have i1 : nI (3 * k) + 1 = nI (3 * k + 1) := nI_add _ 1
      have i2 : nI (3 * k) + 2 = nI (3 * k + 2) := nI_add _ 2
      have hM : ∃ N, N = sA (sA (sA M 22 k (gA M 6 (3 * k))) 23 k (gA M 6 (3 * k + 1))) 24 k (gA M 6 (3 * k + 2)) := ⟨_, rfl⟩
      obtain ⟨N, eN⟩ := hM
      have nA : ∀ a i, ¬ (22 ≤ a ∧ a ≤ 24 ∧ i = k) → gA N a i = gA M a i := fun a i z => by
        rw [eN, gA_sA]
        by_cases z4 : a = 24
        · rw [if_pos z4, if_neg (by omega), gA_sA_ne (by decide), gA_sA_ne (by decide), z4]
        · rw [if_neg z4, gA_sA]
          by_cases z3 : a = 23
          · rw [if_pos z3, if_neg (by omega), gA_sA_ne (by decide), z3]
          · rw [if_neg z3, gA_sA]
            by_cases z2 : a = 22
            · rw [if_pos z2, if_neg (by omega), z2]
            · rw [if_neg z2]
      obtain ⟨M', r1, r2, r3, r4, r5, r6, r7⟩ := xsee (n0 := n0) (q := q) h16 w (k + 1) N (by omega) (by omega) (by rw [eN]; exact hL)
      refine ⟨M', ?_, fun j h1 h2 => ?_, r3.trans (by rw [eN]; rfl), r4.trans (by rw [eN]; rfl), r5.trans (by rw [eN]; rfl), r6.trans (by rw [eN]; rfl), fun a i z => (r7 a i (by omega)).trans (nA a i (by omega))⟩
      · simp only [n3, i1, i2]
        refine eq_f (nI_ge (by omega) (by omega)) (eq_b (xat hL (by omega) (by omega)) (eq_f ok (eq_e (v' := sA M 22 k (gA M 6 (3 * k))) (by rw [ck]) (eq_b (xat (M := sA M 22 k (gA M 6 (3 * k))) (L := 3 * rows) hL (by omega) (by omega)) (eq_f ok (eq_e (v' := sA (sA M 22 k (gA M 6 (3 * k))) 23 k (gA M 6 (3 * k + 1))) ?_ (eq_b (xat (M := sA (sA M 22 k (gA M 6 (3 * k))) 23 k (gA M 6 (3 * k + 1))) (L := 3 * rows) hL (by omega) (by omega)) (eq_f ok (eq_e (v' := N) ?_ ?_)))))))))
        · rw [ck, gA_sA_ne (by decide)]
        · rw [ck, gA_sA_ne (by decide), gA_sA_ne (by decide), eN]
        · rw [show nI k + 1 = nI (k + 1) from nI_add k 1]
          exact r1
      · by_cases z : j = k
        · rw [z, r7 22 k (by omega), r7 23 k (by omega), r7 24 k (by omega), eN]
          refine ⟨?_, ?_, ?_⟩
          · rw [gA_sA_ne (by decide), gA_sA_ne (by decide), gA_sA, if_pos rfl, if_pos rfl]
          · rw [gA_sA_ne (by decide), gA_sA, if_pos rfl, if_pos rfl]
          · rw [gA_sA, if_pos rfl, if_pos rfl]
        · obtain ⟨p1, p2, p3⟩ := r2 j (by omega) h2
          rw [p1, p2, p3, nA 6 _ (by omega), nA 6 _ (by omega), nA 6 _ (by omega)]
          exact ⟨rfl, rfl, rfl⟩
abbrev ycL (n0 : Nat) : Nat → Int32 → Mem → Option (Int32 × Mem) := loopN (bX12_see_113 n0) (fun _ _ => none)
theorem ysee {n0 rows : Nat} (h16 : rows ≤ 16) : ∀ w k M, k ≤ rows → rows < w + k → gI M 61 = nI rows → ∃ M', ycL n0 w (nI k) M = some (nI rows, M') ∧ (∀ j, k ≤ j → j < rows → gA M' 39 j = gA M 1 (3 * j) ∧ gA M' 40 j = gA M 1 (3 * j + 1) ∧ gA M' 41 j = gA M 1 (3 * j + 2)) ∧ gR M' = gR M ∧ gL M' = gL M ∧ gB M' = gB M ∧ gI M' = gI M ∧ ∀ a i, ¬ (39 ≤ a ∧ a ≤ 41 ∧ k ≤ i) → gA M' a i = gA M a i
  | 0, k, M, hk, hw, _ => by omega
  | w + 1, k, M, hk, hw, hL => by
    show ∃ M', bX12_see_113 n0 (ycL n0 w) (nI k) M = _ ∧ _
    unfold bX12_see_113
    by_cases g : k = rows
    · exact ⟨M, eq_t (by rw [hL, g]; exact Int32.le_refl _) (by rw [hL]), fun j h1 h2 => by omega, rfl, rfl, rfl, rfl, fun _ _ _ => rfl⟩
    · have ck : (nI k).toNatClampNeg = k := nI_clamp (by omega)
      have ok : ¬ oob (nI k) 16 := nI_in (by omega) (by decide)
      have i1 : nI (3 * k) + 1 = nI (3 * k + 1) := nI_add _ 1
      have i2 : nI (3 * k) + 2 = nI (3 * k + 2) := nI_add _ 2
      have k0 : (nI (3 * k)).toNatClampNeg = 3 * k := nI_clamp (by omega)
      have k1 : (nI (3 * k + 1)).toNatClampNeg = 3 * k + 1 := nI_clamp (by omega)
      have k2 : (nI (3 * k + 2)).toNatClampNeg = 3 * k + 2 := nI_clamp (by omega)
      have hM : ∃ N, N = sA (sA (sA M 39 k (gA M 1 (3 * k))) 40 k (gA M 1 (3 * k + 1))) 41 k (gA M 1 (3 * k + 2)) := ⟨_, rfl⟩
      obtain ⟨N, eN⟩ := hM
      have nA : ∀ a i, ¬ (39 ≤ a ∧ a ≤ 41 ∧ i = k) → gA N a i = gA M a i := fun a i z => by
        rw [eN, gA_sA]
        by_cases z4 : a = 41
        · rw [if_pos z4, if_neg (by omega), gA_sA_ne (by decide), gA_sA_ne (by decide), z4]
        · rw [if_neg z4, gA_sA]
          by_cases z3 : a = 40
          · rw [if_pos z3, if_neg (by omega), gA_sA_ne (by decide), z3]
          · rw [if_neg z3, gA_sA]
            by_cases z2 : a = 39
            · rw [if_pos z2, if_neg (by omega), z2]
            · rw [if_neg z2]
      obtain ⟨M', r1, r2, r3, r4, r5, r6, r7⟩ := ysee (n0 := n0) h16 w (k + 1) N (by omega) (by omega) (by rw [eN]; exact hL)
      refine ⟨M', ?_, fun j h1 h2 => ?_, r3.trans (by rw [eN]; rfl), r4.trans (by rw [eN]; rfl), r5.trans (by rw [eN]; rfl), r6.trans (by rw [eN]; rfl), fun a i z => (r7 a i (by omega)).trans (nA a i (by omega))⟩
      · simp only [n3, i1, i2, k0, k1, k2, ck]
        refine eq_f (by rw [hL]; exact nI_ge (by omega) (by omega)) (eq_f (nI_in (by omega) (by decide)) (eq_f ok (eq_n (eq_f (nI_in (by omega) (by decide)) (eq_f ok (eq_n (eq_f (nI_in (by omega) (by decide)) (eq_f ok (eq_e (v' := N) ?_ ?_)))))))))
        · rw [eN, gA_sA_ne (by decide), gA_sA_ne (by decide), gA_sA_ne (by decide)]
        · rw [show nI k + 1 = nI (k + 1) from nI_add k 1]
          exact r1
      · by_cases z : j = k
        · rw [z, r7 39 k (by omega), r7 40 k (by omega), r7 41 k (by omega), eN]
          refine ⟨?_, ?_, ?_⟩
          · rw [gA_sA_ne (by decide), gA_sA_ne (by decide), gA_sA, if_pos rfl, if_pos rfl]
          · rw [gA_sA_ne (by decide), gA_sA, if_pos rfl, if_pos rfl]
          · rw [gA_sA, if_pos rfl, if_pos rfl]
        · obtain ⟨p1, p2, p3⟩ := r2 j (by omega) h2
          rw [p1, p2, p3, nA 1 _ (by omega), nA 1 _ (by omega), nA 1 _ (by omega)]
          exact ⟨rfl, rfl, rfl⟩
/-- the tape goes, nothing else -/
theorem R.gone {n0 : Nat} {MX MY : Mem} (h : R n0 MX MY) : R n0 (sI MX 641 0) (sI MY 1 0) := by
  obtain ⟨q, b, T, nr, C, m, pm, s, h⟩ := h
  have ho := h.2.2.2.2.2.2
  obtain ⟨L, l1, l2, l3, l4, l5⟩ := ho.2.2.2.2.1
  exact ⟨q, b, T, nr, C, m, pm, s, h.ou ⟨rfl, fun k z => gI_ne (by omega), fun _ _ => rfl⟩ ⟨fun k z => gI_ne (by omega), fun _ _ => rfl, rfl⟩ ⟨ho.1, ho.2.1, ho.2.2.1, ho.2.2.2.1, ⟨0, by omega, gI_at, gI_at, l4, fun i hi => by omega⟩, ho.2.2.2.2.2⟩⟩
theorem cSee {n0 : Nat} {MX MY : Mem} (hn : 1700 ≤ n0) (h : R n0 MX MY) : Cal n0 (fX11_see n0 MX) (fX12_see n0 MY) := by
  have hg := h.gone
  obtain ⟨q, b, T, nr, C, m, pm, s, h⟩ := h
  obtain ⟨h1, h2, h3, h4, h5, h6, h7⟩ := id h
  have hok := h1.2.2.2.1.2.1
  have hl := h2.2.2.l
  have hb := h1.2.2.2.2.1.2.2.1
  have h13 := h1.2.2.2.2.1.2.2.2.1
  have hq := h1.1
  obtain ⟨L, l1, l2, l3, l4, l5⟩ := h7.2.2.2.2.1
  -- refused on both sides
  have bad : ∀ g, fX5_read n0 q MX = some (0, MX) → g = fX12_see_94 n0 (nI L) 0 (sI MY 1 0) → Cal n0 (fX11_see n0 MX) g := fun g e1 e2 => by
    refine Cal.ref (k := 5) (r := -1) hg (by decide) ?_ (e2.trans ?_)
    · unfold fX11_see
      rw [h1.2.1]
      exact eq_b e1 (eq_n (eq_t rfl (eq_b (xref (k := 5) (by decide)) rfl)))
    · unfold fX12_see_94
      exact eq_t rfl (eq_b (yref (k := 5) (by decide)) rfl)
  have s30 : ∀ M : Mem, fX12_see_30 n0 (nI L) M = fX12_see_94 n0 (nI L) 0 M := fun M => by
    unfold fX12_see_30 fX12_see_31 fX12_see_34
    obtain ⟨w, rfl⟩ : ∃ w, n0 = w + 1 := ⟨n0 - 1, by omega⟩
    show bX12_see_34 (w + 1) (loopN (bX12_see_34 (w + 1)) (fun _ _ _ _ => none) w) (nI L) 0 0 M = _
    unfold bX12_see_34
    by_cases z : nI L ≤ 0
    · exact eq_t z rfl
    · exact eq_f z (eq_t rfl rfl)
  have d3 : gI MX 641 / 3 = nI (L / 3) := by rw [l2, show (3 : Int32) = nI 3 from rfl, nI_div (by omega) (by decide)]
  by_cases g0 : L = 0
  · refine bad _ ?_ ?_
    · unfold fX5_read
      exact eq_f (by decide) (eq_e d3 (eq_t (by rw [g0]; decide) rfl))
    · unfold fX12_see
      refine eq_e l3 (eq_n (eq_t (by rw [g0]; decide) (s30 _)))
  · have lp : ¬ nI L ≤ 0 := nI_ge (a := 0) (by omega) (by omega)
    by_cases g1 : L % 3 = 0
    · have e3 : rem32 (nI L) 3 = 0 := by rw [show (3 : Int32) = nI 3 from rfl, rem_nI (by omega) (by decide), g1]; rfl
      by_cases g2 : 48 < L
      · refine bad _ ?_ ?_
        · unfold fX5_read
          exact eq_f (by decide) (eq_e d3 (eq_f (fun z => by have := (nI_ltI (b := 1) (by omega) (by decide)).mp z; omega) (eq_t (nI_lt (a := 16) (by omega) (by omega)) rfl)))
        · unfold fX12_see
          exact eq_e l3 (eq_n (eq_f lp (eq_f (by decide) (eq_t e3 (eq_t (nI_lt (a := 48) g2 (by omega)) (s30 _))))))
      · obtain ⟨rows, rfl⟩ : ∃ rows, L = 3 * rows := ⟨L / 3, by omega⟩
        have dr : 3 * rows / 3 = rows := by omega
        have xr : fX5_read n0 q MX = xsL n0 q n0 (nI rows) (nI 0) MX := by
          unfold fX5_read
          refine eq_f (by decide) (eq_e (v' := nI rows) (by rw [d3, dr]) (eq_f (fun z => by have := (nI_ltI (b := 1) (by omega) (by decide)).mp z; omega) (eq_f (fun z => by have := (nI_ltI (a := 16) (by decide) (by omega)).mp z; omega) (eq_t (by rw [l2, n3]) rfl))))
        have yr : fX12_see n0 MY = ysL n0 n0 (nI (3 * rows)) 1 (nI (3 * 0)) (sI MY 1 0) := by
          unfold fX12_see
          exact eq_e l3 (eq_n (eq_f lp (eq_f (by decide) (eq_t e3 (eq_f (fun z => by have := (nI_ltI (a := 48) (by decide) (by omega)).mp z; omega) rfl)))))
        rcases seeL (n0 := n0) (q := q) (b := b) (rows := rows) (nc := T.nc) (MX := MX) (MY := sI MY 1 0) hok.2.1 hb l2 (by omega) l5 l4 h1.2.2.2.1.2.2.1 h13 h1.2.2.2.2.1.2.2.2.2.2.1 n0 0 (by omega) (by omega) with ⟨r1, r2, r3⟩ | ⟨r1, r2⟩
        · obtain ⟨X1, a1, a2, a3, a4, a5, a6, a7⟩ := xsee (n0 := n0) (q := q) (rows := rows) (by omega) n0 0 MX (by omega) (by omega) l2
          obtain ⟨Y1, b1, b2, b3, b4, b5, b6, b7⟩ := ysee (n0 := n0) (rows := rows) (by omega) n0 0 (sI (sI MY 1 0) 61 (nI rows)) (by omega) (by omega) gI_at
          have xI : ∀ k, ¬ (k = 641 ∨ k = 2688) → gI (sI (sI X1 2688 (nI rows)) 641 0) k = gI MX k := fun k z => by rw [gI_ne (by omega), gI_ne (by omega), a6]
          have xA : ∀ a, ¬ (22 ≤ a ∧ a ≤ 24) → gA X1 a = gA MX a := fun a z => by
            funext i
            exact a7 a i (by omega)
          have yI : ∀ k, ¬ (k = 1 ∨ k = 61) → gI Y1 k = gI MY k := fun k z => by rw [b6, gI_ne (by omega), gI_ne (by omega)]
          have yA : ∀ a, ¬ (39 ≤ a ∧ a ≤ 41) → gA Y1 a = gA MY a := fun a z => by
            funext i
            exact b7 a i (by omega)
          refine ⟨nI rows, sI (sI X1 2688 (nI rows)) 641 0, Y1, ?_, ?_, q, b, T, nr, C, m, pm, s, h1.cgs a3 (fun k z => xI k (by omega)) (fun a z1 z2 => xA a (by omega)) (yI 13 (by decide)) (fun a z1 z2 => yA a (by omega)) (fun a _ _ => by rw [b5]; rfl), h2, h3.cgs a3 (xI 1281 (by decide)) (xI 1285 (by decide)) (fun a z1 z2 => xA a (by omega)), h4.cg hok.2.1 (by omega) (fun a i z => by rw [yA a (by unfold lP tP dP at z; omega)]), h5.cg hok ⟨[], (List.append_nil _).symm⟩ (fun p z1 z2 => xA p (by omega)) (xI 2049 (by decide)) (xI 2050 (by decide)) (yI 53 (by decide)) (yI 54 (by decide)) (fun a i z => by rw [yA a (by unfold uP at z; omega)]), ⟨rows, by omega, by rw [gI_ne (by decide), gI_at], by rw [b6, gI_at], fun k hk => ?_⟩, ?_⟩
          · unfold fX11_see
            rw [h1.2.1]
            refine eq_b (z := (1, sI X1 2688 (nI rows))) (xr.trans (r1.trans a1)) (eq_n (eq_f (show ¬ (1 : Int32) = 0 by decide) ?_))
            rw [gI_ne (by decide), gI_at]
          · rw [yr, r2]
            unfold fX12_see_94
            refine eq_f (by decide) (eq_f (by decide) (eq_e (v' := sI (sI MY 1 0) 61 (nI rows)) ?_ b1))
            rw [show (3 : Int32) = nI 3 from rfl, nI_div (by omega) (by decide), dr]
          · obtain ⟨a, c, hh, u1, u2, u3, u4, u5, u6⟩ := r3 k (by omega) hk
            obtain ⟨w1, w2, w3⟩ := a2 k (by omega) hk
            obtain ⟨w4, w5, w6⟩ := b2 k (by omega) hk
            have ey : gA (sI (sI MY 1 0) 61 (nI rows)) 1 = gA MX 6 := l4
            rw [ey] at w4 w5 w6
            exact ⟨a, c, hh, u1, u2, u3, w1.trans u4, w4.trans u4, w2.trans u5, w5.trans u5, w3.trans u6, w6.trans u6⟩
          · obtain ⟨o1, o2, o3, o4, o5, o6⟩ := h7
            exact ⟨o1.cg (xI 17 (by decide)) (by rw [b4]; rfl), o2.cg (xI 14 (by decide)) (yI 67 (by decide)) (xA 29 (by omega)) (yA 43 (by omega)), o3.cg (xA 30 (by omega)) (yA 27 (by omega)), o4.cg (xI 15 (by decide)) (xI 16 (by decide)) (yI 10 (by decide)) (yI 11 (by decide)), ⟨0, by omega, gI_at, by rw [b6, gI_ne (by decide), gI_at]; rfl, by rw [yA 1 (by omega)]; exact l4.trans (xA 6 (by omega)).symm, fun i hi => by omega⟩, o6.cg (xA 4 (by omega))⟩
        · exact bad _ (xr.trans r1) (yr.trans r2)
    · refine bad _ ?_ ?_
      · unfold fX5_read
        refine eq_f (by decide) (eq_e d3 ?_)
        by_cases z1 : nI (L / 3) < 1
        · exact eq_t z1 rfl
        · by_cases z2 : (16 : Int32) < nI (L / 3)
          · exact eq_f z1 (eq_t z2 rfl)
          · refine eq_f z1 (eq_f z2 (eq_f ?_ rfl))
            rw [l2, n3]
            exact fun z => by have := (nI_eq (by omega) (by omega)).mp z; omega
      · unfold fX12_see
        refine eq_e l3 (eq_n (eq_f lp (eq_f (by decide) (eq_f ?_ (s30 _)))))
        rw [show (3 : Int32) = nI 3 from rfl, rem_nI (by omega) (by decide)]
        exact nI_ne0 (by omega) (by omega)
