/-! THE NEXT WORD, NUMBER OR SIGN, as the class reads it: words, numbers, advance -/
def fL (t : Nat → Int32) (s i : Nat) : Nat := vLt t (s + i)
def fD (t : Nat → Int32) (s i : Nat) : Nat := vDg t (s + i)
theorem xword {n0 L s : Nat} {Q : Mem → Prop} (h16 : L ≤ 1600) : ∀ (w k : Nat) (M : Mem), gI M 641 = nI L → gI M 387 = nI s → gI M 390 = nI k → s ≤ k → k ≤ L → L < w + k →
    (∀ e, RnB isLt (gA M 6) L k e → okP (fX8_readWord_75 n0 (nI (e27 (fL (gA M 6) s) (min (e - s) 6))) (sI M 390 (nI e))) Q) →
    okP (loopN (bX8_readWord_7 n0) (fun _ _ _ => none) w (nI (e27 (fL (gA M 6) s) (min (k - s) 6))) (nI k) M) Q := by
  intro w
  induction w with
  | zero => intro k M _ _ _ _ _ h; omega
  | succ w ih =>
    intro k M hL hs h390 hsk hkL hw hQ
    rw [lpS, bX8_readWord_7]
    have stop : RnB isLt (gA M 6) L k k → okP (fX8_readWord_75 n0 (nI (e27 (fL (gA M 6) s) (min (k - s) 6))) M) Q := by
      intro hr
      have := hQ k hr
      rwa [sI_same h390] at this
    by_cases h : L ≤ k
    · exact okP_t (by rw [hL]; exact nI_le h (by omega)) (stop ⟨Nat.le_refl k, hkL, fun i h1 h2 => by omega, fun h1 => by omega⟩)
    · refine okP_f (by rw [hL]; exact nI_ge (by omega) (by omega)) (okP_be (xat hL h16 (by omega)) (okP_be xlet ?_))
      by_cases hl : isLt (gA M 6 k)
      · refine okP_f (fun q => bI_0.mp q hl) ?_
        have next : ∀ c : Nat, c = e27 (fL (gA M 6) s) (min (k + 1 - s) 6) → okP (fX8_readWord_62 n0 (loopN (bX8_readWord_7 n0) (fun _ _ _ => none) w) (nI c) (nI k) M) Q := by
          intro c hc
          unfold fX8_readWord_62
          rw [nI_1, hc]
          refine okP_bnd (ih (k + 1) (sI M 390 (nI (k + 1))) (by rw [gI_ne (by decide)]; exact hL) (by rw [gI_ne (by decide)]; exact hs) gI_at (by omega) (by omega) (by omega) (fun e he => ?_))
          rw [sI_sI]
          refine hQ e ⟨by have := he.1; omega, he.2.1, fun i h1 h2 => ?_, he.2.2.2⟩
          by_cases hi : i = k
          · rw [hi]; exact hl
          · exact he.2.2.1 i (by omega) h2
        by_cases h6 : 6 ≤ k - s
        · refine okP_t (show (6 : Int32) ≤ nI k - gI M 387 by rw [hs, nI_subN hsk]; exact nI_le (a := 6) h6 (by omega)) (next _ ?_)
          rw [show min (k - s) 6 = 6 by omega, show min (k + 1 - s) 6 = 6 by omega]
        · refine okP_f (show ¬ (6 : Int32) ≤ nI k - gI M 387 by rw [hs, nI_subN hsk]; exact nI_ge (b := 6) (by omega) (by decide)) (okP_be (xat hL h16 (by omega)) (okP_bnd ?_))
          show okP (fX8_readWord_62 n0 _ (27 * nI (e27 (fL (gA M 6) s) (min (k - s) 6)) + gA M 6 k - 97 + 1) (nI k) M) Q
          rw [(isLt_v hl).2.2, n27]
          refine next _ ?_
          rw [show min (k + 1 - s) 6 = k - s + 1 by omega, show min (k - s) 6 = k - s by omega, e27]
          unfold fL
          rw [show s + (k - s) = k by omega]
      · refine okP_t (bI_f hl) (stop ⟨Nat.le_refl k, hkL, fun i h1 h2 => by omega, fun _ => hl⟩)
theorem e27_lt {f : Nat → Nat} : ∀ {n : Nat}, (∀ i, i < n → f i ≤ 26) → e27 f n < 27 ^ n
  | 0, _ => Nat.lt_of_sub_eq_succ rfl
  | n + 1, h => by
    have h1 := e27_lt (f := f) (n := n) (fun i hi => h i (by omega))
    have h2 := h n (by omega)
    rw [e27, Nat.pow_succ]
    omega
def V27 (t : Nat → Int32) (s e : Nat) : Nat := e27 (fL t s) (e - s) * 27 ^ (6 - (e - s))
theorem V27_lt {t : Nat → Int32} {L s e : Nat} (h : RnB isLt t L s e) (h6 : e - s ≤ 6) : V27 t s e < 2 ^ 31 := by
  have h1 : e27 (fL t s) (e - s) < 27 ^ (e - s) := e27_lt (fun i hi => (isLt_v (h.2.2.1 (s + i) (by omega) (by omega))).2.1)
  have h2 : 27 ^ (e - s) * 27 ^ (6 - (e - s)) = 27 ^ 6 := by rw [← Nat.pow_add]; congr 1; omega
  have h3 : 0 < 27 ^ (6 - (e - s)) := Nat.pow_pos (by decide)
  have h4 := (Nat.mul_lt_mul_right h3).mpr h1
  rw [h2] at h4
  unfold V27
  exact Nat.lt_trans h4 (by decide)
theorem xreadWord {n0 L s : Nat} {M : Mem} (hn : 1601 ≤ n0) (h16 : L ≤ 1600) (hL : gI M 641 = nI L) (hs : gI M 387 = nI s) (h390 : gI M 390 = nI s) (hsL : s < L) (hl : isLt (gA M 6 s)) (hO : ∀ i, i < 25 → gA M 4 i = nI (ownC i)) :
    okP (fX8_readWord n0 M) (fun M' => ∃ e, RnB isLt (gA M 6) L s e ∧ s < e ∧ ((6 < e - s ∧ M' = sI (sI (sI M 390 (nI e)) 386 258) 388 (nI (s + 6))) ∨ (e - s ≤ 6 ∧ ∃ k, kdOf (V27 (gA M 6) s e) k ∧ M' = sI (sI (sI M 390 (nI e)) 389 (nI (V27 (gA M 6) s e))) 386 (nI k)))) := by
  unfold fX8_readWord fX8_readWord_7
  refine okP_bnd ?_
  rw [hs]
  have h0 : (0 : Int32) = nI (e27 (fL (gA M 6) s) (min (s - s) 6)) := by rw [Nat.sub_self]; rfl
  rw [h0]
  refine xword h16 n0 s M hL hs h390 (Nat.le_refl s) (by omega) (by omega) (fun e he => ?_)
  have hse : s < e := by
    rcases Nat.lt_or_ge s e with h | h
    · exact h
    · have : s = e := Nat.le_antisymm he.1 h
      subst this
      exact absurd hl (he.2.2.2 hsL)
  unfold fX8_readWord_75
  have a1 : gI (sI M 390 (nI e)) 390 - gI (sI M 390 (nI e)) 387 = nI (e - s) := by rw [gI_at, gI_ne (by decide), hs, nI_subN (by omega)]
  rw [a1]
  by_cases h6 : e - s ≤ 6
  · refine okP_t (show nI (e - s) ≤ (6 : Int32) from nI_le (b := 6) h6 (by decide)) ?_
    rw [show min (e - s) 6 = e - s by omega]
    have hf : fX8_fillUp n0 (nI (e27 (fL (gA M 6) s) (e - s))) (nI (e - s)) (sI M 390 (nI e)) = some (nI (V27 (gA M 6) s e), sI M 390 (nI e)) := by
      unfold fX8_fillUp fX8_fillUp_4 V27
      exact xfill (6 - (e - s)) n0 (e - s) _ (by omega) (by omega)
    refine okP_be hf (okP_bnd ?_)
    have hV := V27_lt he h6
    obtain ⟨k, hk, hkd⟩ := xkind (n0 := n0) (M := sI (sI M 390 (nI e)) 389 (nI (V27 (gA M 6) s e))) hV hO n0 0 (by omega) (by omega) (fun i hi => by omega)
    refine okP_be (z := (nI k, sI (sI M 390 (nI e)) 389 (nI (V27 (gA M 6) s e)))) ?_ (okP_some ⟨e, he, hse, Or.inr ⟨h6, k, hkd, rfl⟩⟩)
    show fX8_kindOf n0 (gI (sI (sI M 390 (nI e)) 389 (nI (V27 (gA M 6) s e))) 389) (sI (sI M 390 (nI e)) 389 (nI (V27 (gA M 6) s e))) = _
    rw [gI_at]
    exact hk
  · refine okP_f (show ¬ nI (e - s) ≤ (6 : Int32) from nI_ge (a := 6) (by omega) (by have := he.2.1; omega)) (okP_bnd (okP_some ⟨e, he, hse, Or.inl ⟨by omega, ?_⟩⟩))
    rw [gI_ne (show (387 : Nat) ≠ 386 by decide), gI_ne (show (387 : Nat) ≠ 390 by decide), hs]
    rw [show (6 : Int32) = nI 6 from rfl, nI_add]
theorem xnum {n0 L s : Nat} {Q : Mem → Prop} (h16 : L ≤ 1600) : ∀ (w k : Nat) (M : Mem), gI M 641 = nI L → gI M 387 = nI s → gI M 390 = nI k → s ≤ k → k ≤ L → L < w + k →
    (∀ e, RnB isDg (gA M 6) L k e → okP (fX8_readNumber_72 n0 (nI (e10 (fD (gA M 6) s) (min (e - s) 4))) (sI M 390 (nI e))) Q) →
    okP (loopN (bX8_readNumber_7 n0) (fun _ _ _ => none) w (nI (e10 (fD (gA M 6) s) (min (k - s) 4))) (nI k) M) Q := by
  intro w
  induction w with
  | zero => intro k M _ _ _ _ _ h; omega
  | succ w ih =>
    intro k M hL hs h390 hsk hkL hw hQ
    rw [lpS, bX8_readNumber_7]
    have stop : RnB isDg (gA M 6) L k k → okP (fX8_readNumber_72 n0 (nI (e10 (fD (gA M 6) s) (min (k - s) 4))) M) Q := by
      intro hr
      have := hQ k hr
      rwa [sI_same h390] at this
    by_cases h : L ≤ k
    · exact okP_t (by rw [hL]; exact nI_le h (by omega)) (stop ⟨Nat.le_refl k, hkL, fun i h1 h2 => by omega, fun h1 => by omega⟩)
    · refine okP_f (by rw [hL]; exact nI_ge (by omega) (by omega)) (okP_be (xat hL h16 (by omega)) (okP_be xdig ?_))
      by_cases hl : isDg (gA M 6 k)
      · refine okP_f (fun q => bI_0.mp q hl) ?_
        have next : ∀ c : Nat, c = e10 (fD (gA M 6) s) (min (k + 1 - s) 4) → okP (fX8_readNumber_59 n0 (loopN (bX8_readNumber_7 n0) (fun _ _ _ => none) w) (nI c) (nI k) M) Q := by
          intro c hc
          unfold fX8_readNumber_59
          rw [nI_1, hc]
          refine okP_bnd (ih (k + 1) (sI M 390 (nI (k + 1))) (by rw [gI_ne (by decide)]; exact hL) (by rw [gI_ne (by decide)]; exact hs) gI_at (by omega) (by omega) (by omega) (fun e he => ?_))
          rw [sI_sI]
          refine hQ e ⟨by have := he.1; omega, he.2.1, fun i h1 h2 => ?_, he.2.2.2⟩
          by_cases hi : i = k
          · rw [hi]; exact hl
          · exact he.2.2.1 i (by omega) h2
        by_cases h6 : 4 ≤ k - s
        · refine okP_t (show (4 : Int32) ≤ nI k - gI M 387 by rw [hs, nI_subN hsk]; exact nI_le (a := 4) h6 (by omega)) (next _ ?_)
          rw [show min (k - s) 4 = 4 by omega, show min (k + 1 - s) 4 = 4 by omega]
        · refine okP_f (show ¬ (4 : Int32) ≤ nI k - gI M 387 by rw [hs, nI_subN hsk]; exact nI_ge (b := 4) (by omega) (by decide)) (okP_be (xat hL h16 (by omega)) (okP_bnd ?_))
          show okP (fX8_readNumber_59 n0 _ (10 * nI (e10 (fD (gA M 6) s) (min (k - s) 4)) + gA M 6 k - 48) (nI k) M) Q
          rw [(isDg_v hl).2, n10]
          refine next _ ?_
          rw [show min (k + 1 - s) 4 = k - s + 1 by omega, show min (k - s) 4 = k - s by omega, e10]
          unfold fD
          rw [show s + (k - s) = k by omega]
      · refine okP_t (bI_f hl) (stop ⟨Nat.le_refl k, hkL, fun i h1 h2 => by omega, fun _ => hl⟩)
def V10 (t : Nat → Int32) (s e : Nat) : Nat := e10 (fD t s) (min (e - s) 4)
theorem xreadNum {n0 L s : Nat} {M : Mem} (hn : 1601 ≤ n0) (h16 : L ≤ 1600) (hL : gI M 641 = nI L) (hs : gI M 387 = nI s) (h390 : gI M 390 = nI s) (hsL : s < L) (hl : isDg (gA M 6 s)) :
    okP (fX8_readNumber n0 M) (fun M' => ∃ e, RnB isDg (gA M 6) L s e ∧ s < e ∧ ((4 < e - s ∧ M' = sI (sI (sI (sI (sI M 390 (nI e)) 389 (nI (V10 (gA M 6) s e))) 386 256) 386 258) 388 (nI (s + 4))) ∨ (e - s ≤ 4 ∧ M' = sI (sI (sI M 390 (nI e)) 389 (nI (V10 (gA M 6) s e))) 386 256))) := by
  unfold fX8_readNumber fX8_readNumber_7
  refine okP_bnd ?_
  rw [hs]
  have h0 : (0 : Int32) = nI (e10 (fD (gA M 6) s) (min (s - s) 4)) := by rw [Nat.sub_self]; rfl
  rw [h0]
  refine xnum h16 n0 s M hL hs h390 (Nat.le_refl s) (by omega) (by omega) (fun e he => ?_)
  have hse : s < e := by
    rcases Nat.lt_or_ge s e with h | h
    · exact h
    · have : s = e := Nat.le_antisymm he.1 h
      subst this
      exact absurd hl (he.2.2.2 hsL)
  unfold fX8_readNumber_72
  refine okP_bnd (okP_bnd ?_)
  have a1 : gI (sI (sI (sI M 390 (nI e)) 389 (nI (e10 (fD (gA M 6) s) (min (e - s) 4)))) 386 256) 390 - gI (sI (sI (sI M 390 (nI e)) 389 (nI (e10 (fD (gA M 6) s) (min (e - s) 4)))) 386 256) 387 = nI (e - s) := by
    rw [gI_ne (by decide), gI_ne (by decide), gI_at, gI_ne (by decide), gI_ne (by decide), gI_ne (by decide), hs, nI_subN (by omega)]
  rw [a1]
  by_cases h6 : e - s ≤ 4
  · exact okP_t (show nI (e - s) ≤ (4 : Int32) from nI_le (b := 4) h6 (by decide)) (okP_some ⟨e, he, hse, Or.inr ⟨h6, rfl⟩⟩)
  · refine okP_f (show ¬ nI (e - s) ≤ (4 : Int32) from nI_ge (a := 4) (by omega) (by have := he.2.1; omega)) (okP_bnd (okP_some ⟨e, he, hse, Or.inl ⟨by omega, ?_⟩⟩))
    rw [gI_ne (show (387 : Nat) ≠ 386 by decide), gI_ne (show (387 : Nat) ≠ 386 by decide), gI_ne (show (387 : Nat) ≠ 389 by decide), gI_ne (show (387 : Nat) ≠ 390 by decide), hs]
    rw [show (4 : Int32) = nI 4 from rfl, nI_add]
    rfl
