/-! THE NEXT WORD, NUMBER OR SIGN, as the reference reads it: numbers, ahead -/
theorem ynum {n0 L s : Nat} {a : Int32} {t : Nat → Int32} (h16 : L ≤ 1600) : ∀ (w k : Nat) (M : Mem), gI M 2 = nI L → gA M 1 = t → s ≤ k → k ≤ L → L < w + k → (∀ i, s ≤ i → i < k → isDg (t i)) → gI M 6 = nI (e10 (fD t s) (min (k - s) 4)) → gI M 12 = lxA a 4 s k →
    okP (loopN (bX12_ahead_204 n0) (fun _ _ _ _ _ _ => none) w (nI k) 0 1 4 (nI (k - s)) M) (fun M' => ∃ e, RnB isDg t L k e ∧ gI M' 5 = nI e ∧ gI M' 6 = nI (e10 (fD t s) (min (e - s) 4)) ∧ gI M' 12 = lxA a 4 s e ∧ Frm (fun j => j = 5 ∨ j = 6 ∨ j = 12) noN (fun j => j = 7) noN M M') := by
  intro w
  induction w with
  | zero => intro k M _ _ _ _ h; omega
  | succ w ih =>
    intro k M hL ht hsk hkL hw hrun h6v h12
    rw [lpS, bX12_ahead_204]
    have stop : RnB isDg t L k k → okP (fX12_ahead_334 n0 (nI k) M) (fun M' => ∃ e, RnB isDg t L k e ∧ gI M' 5 = nI e ∧ gI M' 6 = nI (e10 (fD t s) (min (e - s) 4)) ∧ gI M' 12 = lxA a 4 s e ∧ Frm (fun j => j = 5 ∨ j = 6 ∨ j = 12) noN (fun j => j = 7) noN M M') :=
      fun hr => okP_some ⟨k, hr, gI_at, by rw [gI_ne (by decide)]; exact h6v, by rw [gI_ne (by decide)]; exact h12, Frm.r.sI (Or.inl rfl)⟩
    by_cases h : L ≤ k
    · exact okP_t (by rw [hL]; exact nI_le h (by omega)) (stop ⟨Nat.le_refl k, hkL, fun i h1 h2 => by omega, fun h1 => by omega⟩)
    refine okP_f (by rw [hL]; exact nI_ge (by omega) (by omega)) (okP_t rfl (okP_f (nI_in (by omega) (by decide)) (okP_be ydig ?_)))
    rw [nI_clamp (by omega), ht]
    by_cases hl : isDg (t k)
    · refine okP_f (fun q => bI_0.mp q hl) ?_
      have next : ∀ M2 : Mem, Frm (fun j => j = 5 ∨ j = 6 ∨ j = 12) noN (fun j => j = 7) noN M M2 → gI M2 6 = nI (e10 (fD t s) (min (k + 1 - s) 4)) → gI M2 12 = lxA a 4 s (k + 1) → okP (fX12_ahead_325 n0 (loopN (bX12_ahead_204 n0) (fun _ _ _ _ _ _ => none) w) (nI k) 0 1 4 (nI (k - s)) M2) (fun M' => ∃ e, RnB isDg t L k e ∧ gI M' 5 = nI e ∧ gI M' 6 = nI (e10 (fD t s) (min (e - s) 4)) ∧ gI M' 12 = lxA a 4 s e ∧ Frm (fun j => j = 5 ∨ j = 6 ∨ j = 12) noN (fun j => j = 7) noN M M') := by
        intro M2 hF g7 g12
        unfold fX12_ahead_325
        rw [nI_1, nI_1, show k - s + 1 = k + 1 - s by omega]
        refine okP_mono (ih (k + 1) M2 (by rw [hF.1 2 (by omega)]; exact hL) (by rw [hF.2.1 1 id]; exact ht) (by omega) (by omega) (by omega) (fun i h1 h2 => ?_) g7 g12) ?_
        · by_cases hi : i = k
          · rw [hi]; exact hl
          · exact hrun i h1 (by omega)
        · intro M' ⟨e, he, a1, a2, a3, a4⟩
          refine ⟨e, ⟨by have := he.1; omega, he.2.1, fun i h1 h2 => ?_, he.2.2.2⟩, a1, a2, a3, hF.tr a4⟩
          by_cases hi : i = k
          · rw [hi]; exact hl
          · exact he.2.2.1 i (by omega) h2
      have tail : ∀ M2 : Mem, Frm (fun j => j = 5 ∨ j = 6 ∨ j = 12) noN (fun j => j = 7) noN M M2 → gI M2 6 = gI M 6 → gI M2 12 = lxA a 4 s (k + 1) → okP (fX12_ahead_263 n0 (loopN (bX12_ahead_204 n0) (fun _ _ _ _ _ _ => none) w) (nI k) 0 1 4 (nI (k - s)) M2) (fun M' => ∃ e, RnB isDg t L k e ∧ gI M' 5 = nI e ∧ gI M' 6 = nI (e10 (fD t s) (min (e - s) 4)) ∧ gI M' 12 = lxA a 4 s e ∧ Frm (fun j => j = 5 ∨ j = 6 ∨ j = 12) noN (fun j => j = 7) noN M M') := by
        intro M2 hF g7 g12
        have sub : okP (fX12_ahead_293 n0 (loopN (bX12_ahead_204 n0) (fun _ _ _ _ _ _ => none) w) (nI k) 0 1 4 (nI (k - s)) M2) (fun M' => ∃ e, RnB isDg t L k e ∧ gI M' 5 = nI e ∧ gI M' 6 = nI (e10 (fD t s) (min (e - s) 4)) ∧ gI M' 12 = lxA a 4 s e ∧ Frm (fun j => j = 5 ∨ j = 6 ∨ j = 12) noN (fun j => j = 7) noN M M') := by
          unfold fX12_ahead_293
          by_cases h6 : 4 ≤ k - s
          · refine okP_t (nI_le (a := 4) (by omega) (by omega)) (next M2 hF ?_ g12)
            rw [g7, h6v, show min (k - s) 4 = 4 by omega, show min (k + 1 - s) 4 = 4 by omega]
          · refine okP_f (nI_ge (b := 4) (by omega) (by decide)) (okP_f i10 (okP_f (nI_in (by omega) (by decide)) ?_))
            rw [nI_clamp (by omega), hF.2.1 1 id, ht, g7, h6v, (isDg_v hl).2, n10]
            refine next _ (hF.sI (Or.inr (Or.inl rfl))) ?_ (by rw [gI_ne (by decide)]; exact g12)
            rw [gI_at, show min (k + 1 - s) 4 = k - s + 1 by omega, show min (k - s) 4 = k - s by omega, e10]
            unfold fD
            rw [show s + (k - s) = k by omega]
        unfold fX12_ahead_263
        exact okP_ite (fun _ => sub) (fun _ => okP_t rfl sub)
      unfold fX12_ahead_243
      by_cases e6 : k - s = 4
      · refine okP_t (by rw [e6]; rfl) ?_
        rw [h12]
        have ek : k = s + 4 := by omega
        unfold lxA
        rw [if_neg (show ¬ 4 < k - s by omega)]
        by_cases ha : a = -1
        · rw [if_pos ha]
          refine okP_t rfl (tail _ (Frm.r.sI (Or.inr (Or.inr rfl))) rfl ?_)
          rw [gI_at]
          unfold lxA
          rw [if_pos ha, if_pos (by omega), ek]
        · rw [if_neg ha]
          refine okP_f ha (tail _ Frm.r rfl ?_)
          rw [h12]
          unfold lxA
          rw [if_neg ha, if_neg ha]
      · refine okP_f (fun q => e6 ((nI_eq (a := k - s) (b := 4) (by omega) (by decide)).mp q)) (tail _ Frm.r rfl ?_)
        rw [h12]
        unfold lxA
        by_cases h5 : 4 < k - s
        · rw [if_pos h5, if_pos (show 4 < k + 1 - s by omega)]
        · rw [if_neg h5, if_neg (show ¬ 4 < k + 1 - s by omega)]
    · exact okP_t (bI_f hl) (stop ⟨Nat.le_refl k, hkL, fun i h1 h2 => by omega, fun _ => hl⟩)
def TokY (t : Nat → Int32) (L s e : Nat) (M' : Mem) : Prop :=
  gI M' 4 = nI s ∧ gI M' 5 = nI e ∧ s ≤ e ∧ e ≤ L ∧
  ((s = L ∧ e = s ∧ gI M' 3 = 0 ∧ gI M' 12 = -1) ∨
   (s < L ∧ e = s + 1 ∧ ¬ isLt (t s) ∧ ¬ isDg (t s) ∧ gI M' 3 = 3 ∧ gI M' 6 = t s ∧ gI M' 12 = -1) ∨
   (s < L ∧ s < e ∧ RnB isLt t L s e ∧ isLt (t s) ∧ gI M' 3 = 1 ∧ ((adj t s ∧ gI M' 12 = nI s) ∨ (¬ adj t s ∧ 6 < e - s ∧ gI M' 12 = nI (s + 6)) ∨ (¬ adj t s ∧ e - s ≤ 6 ∧ gI M' 12 = -1 ∧ gL M' 7 = lN (e256 (fL t s) (e - s))))) ∨
   (s < L ∧ s < e ∧ RnB isDg t L s e ∧ isDg (t s) ∧ gI M' 3 = 2 ∧ ((adj t s ∧ gI M' 12 = nI s) ∨ (¬ adj t s ∧ 4 < e - s ∧ gI M' 12 = nI (s + 4)) ∨ (¬ adj t s ∧ e - s ≤ 4 ∧ gI M' 12 = -1 ∧ gI M' 6 = nI (V10 t s e)))))
/-- what ahead() changes -/
def FrA : Mem → Mem → Prop := Frm (fun j => (3 ≤ j ∧ j ≤ 6) ∨ j = 12) noN (fun j => j = 7) noN
theorem FrA.r {M : Mem} : FrA M M := Frm.r
theorem FrA.i {M M' : Mem} {k : Nat} {v : Int32} (h : FrA M M') (hk : (3 ≤ k ∧ k ≤ 6) ∨ k = 12) : FrA M (sI M' k v) := Frm.sI h hk
theorem FrA.l {M M' : Mem} {v : Int64} (h : FrA M M') : FrA M (sL M' 7 v) := Frm.sL h rfl
theorem FrA.tr {M M' M2 : Mem} (h : FrA M M') (h2 : FrA M' M2) : FrA M M2 := Frm.tr h h2
theorem y98 {n0 s : Nat} {x2 x3 : Int32} {t : Nat → Int32} {M : Mem} {Q : Mem → Prop} (hs : s < 1600) (ht : gA M 1 = t) (h1 : adj t s → okP (fX12_ahead_135 n0 (nI s) x2 x3 (sI M 12 (nI s))) Q) (h2 : ¬ adj t s → okP (fX12_ahead_135 n0 (nI s) x2 x3 M) Q) : okP (fX12_ahead_98 n0 (nI s) x2 x3 M) Q := by
  unfold fX12_ahead_98
  by_cases h0 : s = 0
  · subst h0
    exact okP_t (by decide) (h2 (fun g => absurd g.1 (by decide)))
  · obtain ⟨r, rfl⟩ : ∃ r, s = r + 1 := ⟨s - 1, by omega⟩
    rw [nI_pred]
    refine okP_f (nI_nle (by omega) (by omega)) (okP_f (nI_in (by omega) (by decide)) (okP_be ylet ?_))
    have hcl : (nI r).toNatClampNeg = r := nI_clamp (by omega)
    simp only [hcl, ht]
    by_cases hl : isLt (t r)
    · refine okP_f (fun q => bI_0.mp q hl) ?_
      unfold fX12_ahead_130
      exact h1 ⟨by omega, Or.inl hl⟩
    · refine okP_t (bI_f hl) (okP_f (nI_in (by omega) (by decide)) (okP_be ydig ?_))
      by_cases hd : isDg (t r)
      · refine okP_f (fun q => bI_0.mp q hd) ?_
        unfold fX12_ahead_130
        exact h1 ⟨by omega, Or.inr hd⟩
      · refine okP_t (bI_f hd) (h2 (fun g => ?_))
        rcases g.2 with q | q
        · exact hl q
        · exact hd q
theorem y135w {n0 L s : Nat} {a : Int32} {t : Nat → Int32} {M : Mem} (hn : 1601 ≤ n0) (h16 : L ≤ 1600) (hL : gI M 2 = nI L) (ht : gA M 1 = t) (hsL : s < L) (hl : isLt (t s)) (h4 : gI M 4 = nI s) (ha : gI M 12 = a) :
    okP (fX12_ahead_135 n0 (nI s) 1 0 M) (fun M' => ∃ e, s < e ∧ RnB isLt t L s e ∧ gI M' 4 = nI s ∧ gI M' 5 = nI e ∧ gI M' 3 = 1 ∧ gL M' 7 = lN (e256 (fL t s) (min (e - s) 6)) ∧ gI M' 12 = lxA a 6 s e ∧ FrA M M') := by
  unfold fX12_ahead_135
  refine okP_bnd (okP_bnd (okP_bnd (okP_bnd (okP_f i10 ?_))))
  unfold fX12_ahead_176
  refine okP_f i10 ?_
  unfold fX12_ahead_186
  refine okP_bnd (okP_f i10 ?_)
  unfold fX12_ahead_199 fX12_ahead_204
  have h0 : (0 : Int32) = nI (s - s) := by rw [Nat.sub_self]; rfl
  have hz : lxA a 6 s s = a := by
    unfold lxA
    rw [Nat.sub_self, if_neg (show ¬ 6 < 0 by decide)]
    by_cases q : a = -1
    · rw [if_pos q, q]
    · rw [if_neg q]
  have hF : FrA M (sI (sI (sI (sL (sI M 6 0) 7 0) 3 3) 5 (nI s + 1)) 3 1) := ((((FrA.r.i (by decide)).l).i (by decide)).i (by decide)).i (by decide)
  have key := yword (n0 := n0) (L := L) (s := s) (a := a) (t := t) h16 n0 s (sI (sI (sI (sL (sI M 6 0) 7 0) 3 3) 5 (nI s + 1)) 3 1) (by rw [hF.1 2 (by omega)]; exact hL) (by rw [hF.2.1 1 id]; exact ht) (Nat.le_refl s) (by omega) (by omega) (fun i h1 h2 => by omega) (by rw [Nat.sub_self]; rfl) (by rw [hz, ← ha]; simp [gI_sI, gI_sL])
  rw [← h0] at key
  refine okP_mono key ?_
  intro M' ⟨e, he, a1, a2, a3, a4⟩
  have hse : s < e := by
    rcases Nat.lt_or_ge s e with h | h
    · exact h
    · have : s = e := Nat.le_antisymm he.1 h
      subst this
      exact absurd hl (he.2.2.2 hsL)
  have hG : FrA M M' := hF.tr (a4.wk (fun k hk => by omega) (fun k hk => hk) (fun k hk => hk) (fun k hk => hk))
  refine ⟨e, hse, he, ?_, a1, ?_, a2, a3, hG⟩
  · rw [a4.1 4 (by omega)]
    simp [gI_sI, gI_sL, h4]
  · rw [a4.1 3 (by omega)]
    simp [gI_sI]
theorem y135n {n0 L s : Nat} {a : Int32} {t : Nat → Int32} {M : Mem} (hn : 1601 ≤ n0) (h16 : L ≤ 1600) (hL : gI M 2 = nI L) (ht : gA M 1 = t) (hsL : s < L) (hl : isDg (t s)) (h4 : gI M 4 = nI s) (ha : gI M 12 = a) :
    okP (fX12_ahead_135 n0 (nI s) 0 1 M) (fun M' => ∃ e, s < e ∧ RnB isDg t L s e ∧ gI M' 4 = nI s ∧ gI M' 5 = nI e ∧ gI M' 3 = 2 ∧ gI M' 6 = nI (V10 t s e) ∧ gI M' 12 = lxA a 4 s e ∧ FrA M M') := by
  unfold fX12_ahead_135
  refine okP_bnd (okP_bnd (okP_bnd (okP_bnd (okP_t rfl (okP_f i10 ?_)))))
  unfold fX12_ahead_176
  refine okP_t rfl ?_
  unfold fX12_ahead_186
  refine okP_bnd (okP_t rfl ?_)
  unfold fX12_ahead_199 fX12_ahead_204
  have h0 : (0 : Int32) = nI (s - s) := by rw [Nat.sub_self]; rfl
  have hz : lxA a 4 s s = a := by
    unfold lxA
    rw [Nat.sub_self, if_neg (show ¬ 4 < 0 by decide)]
    by_cases q : a = -1
    · rw [if_pos q, q]
    · rw [if_neg q]
  have hF : FrA M (sI (sI (sI (sL (sI M 6 0) 7 0) 3 3) 5 (nI s + 1)) 3 2) := ((((FrA.r.i (by decide)).l).i (by decide)).i (by decide)).i (by decide)
  have key := ynum (n0 := n0) (L := L) (s := s) (a := a) (t := t) h16 n0 s (sI (sI (sI (sL (sI M 6 0) 7 0) 3 3) 5 (nI s + 1)) 3 2) (by rw [hF.1 2 (by omega)]; exact hL) (by rw [hF.2.1 1 id]; exact ht) (Nat.le_refl s) (by omega) (by omega) (fun i h1 h2 => by omega) (by rw [Nat.sub_self]; rfl) (by rw [hz, ← ha]; simp [gI_sI, gI_sL])
  rw [show nI (s - s) = (0 : Int32) from h0.symm] at key
  refine okP_mono key ?_
  intro M' ⟨e, he, a1, a2, a3, a4⟩
  have hse : s < e := by
    rcases Nat.lt_or_ge s e with h | h
    · exact h
    · have : s = e := Nat.le_antisymm he.1 h
      subst this
      exact absurd hl (he.2.2.2 hsL)
  have hG : FrA M M' := hF.tr (a4.wk (fun k hk => by omega) (fun k hk => hk) (fun k hk => hk) (fun k hk => hk))
  refine ⟨e, hse, he, ?_, a1, ?_, a2, a3, hG⟩
  · rw [a4.1 4 (by omega)]
    simp [gI_sI, gI_sL, h4]
  · rw [a4.1 3 (by omega)]
    simp [gI_sI]
theorem lxA_s {s e m : Nat} (hs : s < 2 ^ 31) : lxA (nI s) m s e = nI s := by
  unfold lxA
  rw [if_neg (fun q => ?_)]
  have := nI_pos (n := s) hs
  rw [q] at this
  exact this (by decide)
theorem yahead {n0 L p : Nat} {M : Mem} (hn : 1601 ≤ n0) (h16 : L ≤ 1600) (hL : gI M 2 = nI L) (hp : p ≤ L) (h5 : gI M 5 = nI p) :
    okP (fX12_ahead n0 M) (fun M' => (∃ s e, SkB (gA M 1) L p s ∧ TokY (gA M 1) L s e M') ∧ FrA M M') := by
  unfold fX12_ahead
  refine okP_bnd ?_
  unfold fX12_ahead_5
  rw [h5]
  refine yskip h16 hL n0 p hp (by omega) (fun s hs => ?_)
  have hsl := hs.2.1
  unfold fX12_ahead_41
  refine okP_bnd (okP_bnd (okP_bnd (okP_bnd ?_)))
  have hF : FrA M (sI (sI (sI (sI M 4 (nI s)) 5 (nI s)) 3 0) 12 (-1)) := (((FrA.r.i (by decide)).i (by decide)).i (by decide)).i (by decide)
  have b2 : gI (sI (sI (sI (sI M 4 (nI s)) 5 (nI s)) 3 0) 12 (-1)) 2 = nI L := by rw [hF.1 2 (by omega)]; exact hL
  have b1 : gA (sI (sI (sI (sI M 4 (nI s)) 5 (nI s)) 3 0) 12 (-1)) 1 = gA M 1 := hF.2.1 1 id
  have b4 : gI (sI (sI (sI (sI M 4 (nI s)) 5 (nI s)) 3 0) 12 (-1)) 4 = nI s := by simp [gI_sI]
  have b5 : gI (sI (sI (sI (sI M 4 (nI s)) 5 (nI s)) 3 0) 12 (-1)) 5 = nI s := by simp [gI_sI]
  have b3 : gI (sI (sI (sI (sI M 4 (nI s)) 5 (nI s)) 3 0) 12 (-1)) 3 = 0 := by simp [gI_sI]
  have b12 : gI (sI (sI (sI (sI M 4 (nI s)) 5 (nI s)) 3 0) 12 (-1)) 12 = -1 := gI_at
  generalize sI (sI (sI (sI M 4 (nI s)) 5 (nI s)) 3 0) 12 (-1) = B at *
  rw [b2]
  by_cases hsL : s < L
  · refine okP_t (nI_lt hsL (by omega)) (okP_f (nI_in (by omega) (by decide)) (okP_be ylet (okP_f (nI_in (by omega) (by decide)) (okP_be ydig ?_))))
    show okP (if bI (isLt (gA B 1 (nI s).toNatClampNeg)) = 0 then if bI (isDg (gA B 1 (nI s).toNatClampNeg)) = 0 then fX12_ahead_135 n0 (nI s) (bI (isLt (gA B 1 (nI s).toNatClampNeg))) (bI (isDg (gA B 1 (nI s).toNatClampNeg))) B else fX12_ahead_98 n0 (nI s) (bI (isLt (gA B 1 (nI s).toNatClampNeg))) (bI (isDg (gA B 1 (nI s).toNatClampNeg))) B else fX12_ahead_98 n0 (nI s) (bI (isLt (gA B 1 (nI s).toNatClampNeg))) (bI (isDg (gA B 1 (nI s).toNatClampNeg))) B) _
    rw [nI_clamp (by omega), b1]
    by_cases hl : isLt (gA M 1 s)
    · have hd := lt_dg hl
      rw [bI_t hl, bI_f hd]
      refine okP_f i10 (y98 (by omega) b1 (fun hA => ?_) (fun hA => ?_))
      · refine okP_mono (y135w (a := nI s) hn h16 (by rw [gI_ne (by decide)]; exact b2) (by exact b1) hsL hl (by rw [gI_ne (by decide)]; exact b4) gI_at) ?_
        intro M' ⟨e, h1, h2, h3, h4', h5', h6, h7, h8⟩
        rw [lxA_s (by omega)] at h7
        exact ⟨⟨s, e, hs, h3, h4', by omega, h2.2.1, Or.inr (Or.inr (Or.inl ⟨hsL, h1, h2, hl, h5', Or.inl ⟨hA, h7⟩⟩))⟩, (hF.i (Or.inr rfl)).tr h8⟩
      · refine okP_mono (y135w (a := -1) hn h16 b2 b1 hsL hl b4 b12) ?_
        intro M' ⟨e, h1, h2, h3, h4', h5', h6, h7, h8⟩
        refine ⟨⟨s, e, hs, h3, h4', by omega, h2.2.1, Or.inr (Or.inr (Or.inl ⟨hsL, h1, h2, hl, h5', Or.inr ?_⟩))⟩, hF.tr h8⟩
        unfold lxA at h7
        rw [if_pos rfl] at h7
        by_cases g : 6 < e - s
        · rw [if_pos g] at h7
          exact Or.inl ⟨hA, g, h7⟩
        · rw [if_neg g] at h7
          rw [show min (e - s) 6 = e - s by omega] at h6
          exact Or.inr ⟨hA, by omega, h7, h6⟩
    · by_cases hd : isDg (gA M 1 s)
      · rw [bI_f hl, bI_t hd]
        refine okP_t rfl (okP_f i10 (y98 (by omega) b1 (fun hA => ?_) (fun hA => ?_)))
        · refine okP_mono (y135n (a := nI s) hn h16 (by rw [gI_ne (by decide)]; exact b2) (by exact b1) hsL hd (by rw [gI_ne (by decide)]; exact b4) gI_at) ?_
          intro M' ⟨e, h1, h2, h3, h4', h5', h6, h7, h8⟩
          rw [lxA_s (by omega)] at h7
          exact ⟨⟨s, e, hs, h3, h4', by omega, h2.2.1, Or.inr (Or.inr (Or.inr ⟨hsL, h1, h2, hd, h5', Or.inl ⟨hA, h7⟩⟩))⟩, (hF.i (Or.inr rfl)).tr h8⟩
        · refine okP_mono (y135n (a := -1) hn h16 b2 b1 hsL hd b4 b12) ?_
          intro M' ⟨e, h1, h2, h3, h4', h5', h6, h7, h8⟩
          refine ⟨⟨s, e, hs, h3, h4', by omega, h2.2.1, Or.inr (Or.inr (Or.inr ⟨hsL, h1, h2, hd, h5', Or.inr ?_⟩))⟩, hF.tr h8⟩
          unfold lxA at h7
          rw [if_pos rfl] at h7
          by_cases g : 4 < e - s
          · rw [if_pos g] at h7
            exact Or.inl ⟨hA, g, h7⟩
          · rw [if_neg g] at h7
            exact Or.inr ⟨hA, by omega, h7, h6⟩
      · rw [bI_f hl, bI_f hd]
        refine okP_t rfl (okP_t rfl ?_)
        unfold fX12_ahead_135
        refine okP_bnd (okP_bnd (okP_bnd (okP_bnd (okP_t rfl (okP_t rfl (okP_f (nI_in (by omega) (by decide)) (okP_some ⟨⟨s, s + 1, hs, ?_⟩, ?_⟩)))))))
        · refine ⟨by simp [gI_sI, gI_sL, b4], by simp [gI_sI, nI_1], by omega, by omega, Or.inr (Or.inl ⟨hsL, rfl, hl, hd, by simp [gI_sI], ?_, by simp [gI_sI, gI_sL, b12]⟩)⟩
          rw [gI_at, nI_clamp (by omega)]
          show gA B 1 s = _
          rw [b1]
        · exact hF.tr (((((FrA.r.i (by decide)).l).i (by decide)).i (by decide)).i (by decide))
  · refine okP_f (nI_nlt (by omega) (by omega)) (okP_some ⟨⟨s, s, hs, b4, b5, by omega, by omega, Or.inl ⟨by omega, rfl, b3, b12⟩⟩, hF⟩)
