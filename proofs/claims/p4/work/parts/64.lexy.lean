/-! THE NEXT WORD, NUMBER OR SIGN, as the reference reads it. u_tn, g_or, g_shl began as rows of kit/laws -/
theorem u_tn {n : Nat} (h : n < 2 ^ 64) : (UInt64.ofNat n).toNat = n := Nat.mod_eq_of_lt h
theorem g_or {k p a b : Nat} (hp : 2 ^ k = p) (ha : a < p) (h : b * p + a < 2 ^ 64) : lN (b * p) ||| lN a = lN (b * p + a) := by
  subst hp
  have h1 : b * 2 ^ k ||| a = b * 2 ^ k + a := by rw [← Nat.shiftLeft_eq, Nat.shiftLeft_add_eq_or_of_lt ha]
  have h3 : UInt64.ofNat (b * 2 ^ k) ||| UInt64.ofNat a = UInt64.ofNat (b * 2 ^ k + a) := UInt64.toNat_inj.mp (by rw [UInt64.toNat_or, u_tn (by omega), u_tn (by omega), u_tn h, h1])
  have h2 := congrArg UInt64.toInt64 h3
  exact h2
theorem g_shl {a k p : Nat} {y : Int64} (hy : y.toBitVec.smod 64 = BitVec.ofNat 64 k) (hk : k < 64) (hp : 2 ^ k = p) (ha : a < 2 ^ 64) : lN a <<< y = lN (a * p) := by
  subst hp
  apply Int64.toBitVec_inj.mp
  rw [Int64.toBitVec_shiftLeft, hy]
  apply BitVec.eq_of_toNat_eq
  have hb : (lN a).toBitVec.toNat = a := Nat.mod_eq_of_lt ha
  have hk' : (BitVec.ofNat 64 k).toNat = k := Nat.mod_eq_of_lt (by omega)
  have h : ((lN a).toBitVec <<< BitVec.ofNat 64 k).toNat = (a * 2 ^ k) % 2 ^ 64 := by simp only [BitVec.shiftLeft_eq', BitVec.toNat_shiftLeft, hb, hk', Nat.shiftLeft_eq]
  exact h
def e256 (f : Nat → Nat) : Nat → Nat
  | 0 => 0
  | n + 1 => 256 * e256 f n + (f n + 96)
theorem e256_lt {f : Nat → Nat} : ∀ {n : Nat}, (∀ i, i < n → f i ≤ 26) → e256 f n < 256 ^ n
  | 0, _ => Nat.lt_of_sub_eq_succ rfl
  | n + 1, h => by
    have h1 := e256_lt (f := f) (n := n) (fun i hi => h i (by omega))
    have h2 := h n (by omega)
    rw [e256, Nat.pow_succ]
    omega
theorem w256 {c v : Nat} (hc : c < 2 ^ 48) (hv : v ≤ 26) : (lN c <<< ((8 : Int32).toInt64 &&& 63)) ||| (nI (v + 96)).toInt64 = lN (256 * c + (v + 96)) := by
  rw [g_shl (k := 8) (p := 256) (by decide) (by decide) (by decide) (by omega), nI_l (by omega), g_or (k := 8) (by decide) (by omega) (by omega)]
  congr 1
  omega
theorem ylet {n0 : Nat} {x : Int32} {M : Mem} : fX12_isLetter n0 x M = some (bI (isLt x), M) := by unfold fX12_isLetter; exact rng_bI
theorem ydig {n0 : Nat} {x : Int32} {M : Mem} : fX12_isDigit n0 x M = some (bI (isDg x), M) := by unfold fX12_isDigit; exact rng_bI
theorem yskip {n0 L : Nat} {M : Mem} {Q : Mem → Prop} (h16 : L ≤ 1600) (hL : gI M 2 = nI L) : ∀ (w p : Nat), p ≤ L → L < w + p → (∀ s, SkB (gA M 1) L p s → okP (fX12_ahead_41 n0 (nI s) M) Q) → okP (loopN (bX12_ahead_5 n0) (fun _ _ => none) w (nI p) M) Q := by
  intro w
  induction w with
  | zero => intro p _ h; omega
  | succ w ih =>
    intro p hp hw hQ
    rw [lpS, bX12_ahead_5]
    have step : blk (gA M 1 p) → p < L → okP (fX12_ahead_35 n0 (loopN (bX12_ahead_5 n0) (fun _ _ => none) w) (nI p) M) Q := by
      intro hb hpL
      unfold fX12_ahead_35
      rw [nI_1]
      refine ih (p + 1) (by omega) (by omega) (fun s hs => hQ s ⟨by have := hs.1; omega, hs.2.1, fun i h1 h2 => ?_, hs.2.2.2⟩)
      by_cases hi : i = p
      · rw [hi]; exact hb
      · exact hs.2.2.1 i (by omega) h2
    by_cases h : L ≤ p
    · exact okP_t (by rw [hL]; exact nI_le h (by omega)) (hQ p ⟨Nat.le_refl p, hp, fun i h1 h2 => by omega, fun h1 => by omega⟩)
    · refine okP_f (by rw [hL]; exact nI_ge (by omega) (by omega)) (okP_f (nI_in (by omega) (by decide)) ?_)
      have hcl : (nI p).toNatClampNeg = p := nI_clamp (by omega)
      simp only [hcl]
      refine okP_ite (fun hb => step (Or.inl hb) (by omega)) (fun hb => okP_f (nI_in (by omega) (by decide)) (okP_ite (fun hc => step (Or.inr hc) (by omega)) (fun hc => hQ p ⟨Nat.le_refl p, hp, fun i h1 h2 => by omega, fun _ g => ?_⟩)))
      rcases g with g | g
      · exact hb g
      · exact hc g
def lxA (a : Int32) (m s k : Nat) : Int32 := if a = -1 then (if m < k - s then nI (s + m) else -1) else a
theorem yword {n0 L s : Nat} {a : Int32} {t : Nat → Int32} (h16 : L ≤ 1600) : ∀ (w k : Nat) (M : Mem), gI M 2 = nI L → gA M 1 = t → s ≤ k → k ≤ L → L < w + k → (∀ i, s ≤ i → i < k → isLt (t i)) → gL M 7 = lN (e256 (fL t s) (min (k - s) 6)) → gI M 12 = lxA a 6 s k →
    okP (loopN (bX12_ahead_204 n0) (fun _ _ _ _ _ _ => none) w (nI k) 1 0 6 (nI (k - s)) M) (fun M' => ∃ e, RnB isLt t L k e ∧ gI M' 5 = nI e ∧ gL M' 7 = lN (e256 (fL t s) (min (e - s) 6)) ∧ gI M' 12 = lxA a 6 s e ∧ Frm (fun j => j = 5 ∨ j = 12) noN (fun j => j = 7) noN M M') := by
  intro w
  induction w with
  | zero => intro k M _ _ _ _ h; omega
  | succ w ih =>
    intro k M hL ht hsk hkL hw hrun h7 h12
    rw [lpS, bX12_ahead_204]
    have stop : RnB isLt t L k k → okP (fX12_ahead_334 n0 (nI k) M) (fun M' => ∃ e, RnB isLt t L k e ∧ gI M' 5 = nI e ∧ gL M' 7 = lN (e256 (fL t s) (min (e - s) 6)) ∧ gI M' 12 = lxA a 6 s e ∧ Frm (fun j => j = 5 ∨ j = 12) noN (fun j => j = 7) noN M M') :=
      fun hr => okP_some ⟨k, hr, gI_at, h7, by rw [gI_ne (by decide)]; exact h12, Frm.r.sI (Or.inl rfl)⟩
    by_cases h : L ≤ k
    · exact okP_t (by rw [hL]; exact nI_le h (by omega)) (stop ⟨Nat.le_refl k, hkL, fun i h1 h2 => by omega, fun h1 => by omega⟩)
    refine okP_f (by rw [hL]; exact nI_ge (by omega) (by omega)) (okP_f i10 (okP_f (nI_in (by omega) (by decide)) (okP_be ylet ?_)))
    rw [nI_clamp (by omega), ht]
    by_cases hl : isLt (t k)
    · refine okP_f (fun q => bI_0.mp q hl) ?_
      have next : ∀ M2 : Mem, Frm (fun j => j = 5 ∨ j = 12) noN (fun j => j = 7) noN M M2 → gL M2 7 = lN (e256 (fL t s) (min (k + 1 - s) 6)) → gI M2 12 = lxA a 6 s (k + 1) → okP (fX12_ahead_325 n0 (loopN (bX12_ahead_204 n0) (fun _ _ _ _ _ _ => none) w) (nI k) 1 0 6 (nI (k - s)) M2) (fun M' => ∃ e, RnB isLt t L k e ∧ gI M' 5 = nI e ∧ gL M' 7 = lN (e256 (fL t s) (min (e - s) 6)) ∧ gI M' 12 = lxA a 6 s e ∧ Frm (fun j => j = 5 ∨ j = 12) noN (fun j => j = 7) noN M M') := by
        intro M2 hF g7 g12
        unfold fX12_ahead_325
        rw [nI_1, nI_1, show k - s + 1 = k + 1 - s by omega]
        refine okP_mono (ih (k + 1) M2 (by rw [hF.1 2 (by omega)]; exact hL) (by rw [hF.2.1 1 id]; exact ht) (by omega) (by omega) (by omega) (fun i h1 h2 => ?_) g7 g12) ?_
        · by_cases hi : i = k
          · rw [hi]; exact hl
          · exact hrun i h1 (by omega)
        · intro M' ⟨e, he, a1, a2, a3, a4⟩
          refine ⟨e, ⟨by have := he.1; omega, he.2.1, fun i h1 h2 => ?_, he.2.2.2⟩, a1, a2, a3, hF.tr a4⟩
          by_cases hi : i = k
          · rw [hi]; exact hl
          · exact he.2.2.1 i (by omega) h2
      have two93 : ∀ M2 : Mem, Frm (fun j => j = 5 ∨ j = 12) noN (fun j => j = 7) noN M M2 → gL M2 7 = lN (e256 (fL t s) (min (k + 1 - s) 6)) → gI M2 12 = lxA a 6 s (k + 1) → okP (fX12_ahead_293 n0 (loopN (bX12_ahead_204 n0) (fun _ _ _ _ _ _ => none) w) (nI k) 1 0 6 (nI (k - s)) M2) (fun M' => ∃ e, RnB isLt t L k e ∧ gI M' 5 = nI e ∧ gL M' 7 = lN (e256 (fL t s) (min (e - s) 6)) ∧ gI M' 12 = lxA a 6 s e ∧ Frm (fun j => j = 5 ∨ j = 12) noN (fun j => j = 7) noN M M') := by
        intro M2 hF g7 g12
        unfold fX12_ahead_293
        exact okP_ite (fun _ => next M2 hF g7 g12) (fun _ => okP_t rfl (next M2 hF g7 g12))
      unfold fX12_ahead_243
      by_cases h6 : k - s < 6
      · refine okP_f (fun q => ?_) ?_
        · have := (nI_eq (a := k - s) (b := 6) (by omega) (by decide)).mp q
          omega
        unfold fX12_ahead_263
        refine okP_f (nI_ge (b := 6) h6 (by decide)) (okP_f i10 (okP_f (nI_in (by omega) (by decide)) ?_))
        rw [nI_clamp (by omega)]
        refine two93 _ (Frm.r.sL rfl) ?_ ?_
        · rw [gL_sL, if_pos rfl, h7, ht, (isLt_v hl).2.2]
          rw [w256]
          · rw [show min (k + 1 - s) 6 = k - s + 1 by omega, show min (k - s) 6 = k - s by omega, e256]
            unfold fL
            rw [show s + (k - s) = k by omega]
          · have h1 := e256_lt (f := fL t s) (n := k - s) (fun i hi => (isLt_v (hrun (s + i) (by omega) (by omega))).2.1)
            rw [show min (k - s) 6 = k - s by omega]
            exact Nat.lt_of_lt_of_le h1 (show 256 ^ (k - s) ≤ 256 ^ 6 from Nat.pow_le_pow_right (by decide) (by omega))
          · exact (isLt_v hl).2.1
        · show gI M 12 = _
          rw [h12]
          unfold lxA
          rw [if_neg (show ¬ 6 < k - s by omega), if_neg (show ¬ 6 < k + 1 - s by omega)]
      · have tail : ∀ M2 : Mem, Frm (fun j => j = 5 ∨ j = 12) noN (fun j => j = 7) noN M M2 → gL M2 7 = gL M 7 → gI M2 12 = lxA a 6 s (k + 1) → okP (fX12_ahead_263 n0 (loopN (bX12_ahead_204 n0) (fun _ _ _ _ _ _ => none) w) (nI k) 1 0 6 (nI (k - s)) M2) (fun M' => ∃ e, RnB isLt t L k e ∧ gI M' 5 = nI e ∧ gL M' 7 = lN (e256 (fL t s) (min (e - s) 6)) ∧ gI M' 12 = lxA a 6 s e ∧ Frm (fun j => j = 5 ∨ j = 12) noN (fun j => j = 7) noN M M') := by
          intro M2 hF g7 g12
          unfold fX12_ahead_263
          refine okP_t (nI_le (a := 6) (by omega) (by omega)) (two93 M2 hF ?_ g12)
          rw [g7, h7, show min (k - s) 6 = 6 by omega, show min (k + 1 - s) 6 = 6 by omega]
        by_cases e6 : k - s = 6
        · refine okP_t (by rw [e6]; rfl) ?_
          rw [h12]
          have ek : k = s + 6 := by omega
          unfold lxA
          rw [if_neg (show ¬ 6 < k - s by omega)]
          by_cases ha : a = -1
          · rw [if_pos ha]
            refine okP_t rfl (tail _ (Frm.r.sI (Or.inr rfl)) rfl ?_)
            rw [gI_at]
            unfold lxA
            rw [if_pos ha, if_pos (by omega), ek]
          · rw [if_neg ha]
            refine okP_f ha (tail _ Frm.r rfl ?_)
            rw [h12]
            unfold lxA
            rw [if_neg ha, if_neg ha]
        · refine okP_f (fun q => e6 ((nI_eq (a := k - s) (b := 6) (by omega) (by decide)).mp q)) (tail _ Frm.r rfl ?_)
          rw [h12]
          unfold lxA
          rw [if_pos (show 6 < k - s by omega), if_pos (show 6 < k + 1 - s by omega)]
    · exact okP_t (bI_f hl) (stop ⟨Nat.le_refl k, hkL, fun i h1 h2 => by omega, fun _ => hl⟩)
