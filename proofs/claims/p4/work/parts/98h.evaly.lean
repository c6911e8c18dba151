/-! ONE STEP OF A FORMULA'S VALUE BY THE REFERENCE -/
def YH (b wh e : Nat) (M : Mem) : Prop := gI M 13 = nI b ∧ b ≤ 1 ∧ wh ≤ 1 ∧ gA M 15 (2 * b + wh) = nI e ∧ e ≤ 1600
theorem YH.o {b wh e : Nat} {M : Mem} (h : YH b wh e M) : ¬ oob ((2 : Int32) * gI M 13 + nI wh) 4 := by
  obtain ⟨h1, h2, h3, _, _⟩ := h
  rw [h1, show (2 : Int32) = nI 2 from rfl, nI_mul, nI_add]
  exact nI_in (by omega) (by decide)
theorem YH.v {b wh e : Nat} {M : Mem} (h : YH b wh e M) : (1600 : Int32) * gI M 13 + gA M 15 ((2 : Int32) * gI M 13 + nI wh).toNatClampNeg = nI (1600 * b + e) := by
  obtain ⟨h1, h2, h3, h4, _⟩ := h
  rw [h1, show (2 : Int32) = nI 2 from rfl, nI_mul, nI_add, nI_clamp (by omega), h4, show (1600 : Int32) = nI 1600 from rfl, nI_mul, nI_add]
theorem yhd {n0 b wh e i w : Nat} {x2 : Int32} {M : Mem} {r : Option (Int64 × Mem)} (h : YH b wh e M) (hi : i < e) (c : Int32) (hc : gA M 16 (1600 * b + i) = c)
    (H : (if (30 : Int32) < c then
      if c = (43 : Int32) then
        if oob (x2 - (1 : Int32)) 500 then none else
        if oob (x2 - (1 : Int32)) 500 then none else
        fX12_reckons_221 n0 (rL n0 w) (nI wh) x2 (nI (1600 * b + i)) (sB M 34 (Int32.toNatClampNeg (x2 - (1 : Int32))) ((1 : Int64) - (gB M 34 (Int32.toNatClampNeg (x2 - (1 : Int32))))))
      else
        if c = (44 : Int32) then
          if oob ((x2 + (-2 : Int32)) - (1 : Int32)) 500 then none else
          if (lg_cmp (gB M 34 (Int32.toNatClampNeg ((x2 + (-2 : Int32)) - (1 : Int32)))) (1 : Int64)) = 0 then
            if oob (x2 + (-2 : Int32)) 500 then none else
            fX12_reckons_187 n0 (rL n0 w) (nI wh) (x2 + (-2 : Int32)) (nI (1600 * b + i)) ((x2 + (-2 : Int32)) - (1 : Int32)) (gB M 34 (Int32.toNatClampNeg (x2 + (-2 : Int32)))) M
          else
            if oob ((x2 + (-2 : Int32)) + (1 : Int32)) 500 then none else
            fX12_reckons_187 n0 (rL n0 w) (nI wh) (x2 + (-2 : Int32)) (nI (1600 * b + i)) ((x2 + (-2 : Int32)) - (1 : Int32)) (gB M 34 (Int32.toNatClampNeg ((x2 + (-2 : Int32)) + (1 : Int32)))) M
        else
          if oob ((x2 + (-1 : Int32)) - (1 : Int32)) 500 then none else
          if oob (x2 + (-1 : Int32)) 500 then none else
          (fX12_two n0 c (gB M 34 (Int32.toNatClampNeg ((x2 + (-1 : Int32)) - (1 : Int32)))) (gB M 34 (Int32.toNatClampNeg (x2 + (-1 : Int32)))) M).bind fun z217 =>
          if oob ((x2 + (-1 : Int32)) - (1 : Int32)) 500 then none else
          fX12_reckons_221 n0 (rL n0 w) (nI wh) (x2 + (-1 : Int32)) (nI (1600 * b + i)) (sB z217.2 34 (Int32.toNatClampNeg ((x2 + (-1 : Int32)) - (1 : Int32))) z217.1)
    else
      if c = 0 then
        if oob (nI (1600 * b + i)) 3200 then none else
        fX12_reckons_105 n0 (rL n0 w) (nI wh) x2 (nI (1600 * b + i)) x2 ((gA M 17 (Int32.toNatClampNeg (nI (1600 * b + i))))).toInt64 M
      else
        if c = (30 : Int32) then
          fX12_reckons_105 n0 (rL n0 w) (nI wh) x2 (nI (1600 * b + i)) x2 (1 : Int64) M
        else
          if oob c 10 then none else
          fX12_reckons_105 n0 (rL n0 w) (nI wh) x2 (nI (1600 * b + i)) x2 ((gA M 35 (Int32.toNatClampNeg c))).toInt64 M) = r) : rL n0 (w + 1) (nI wh) x2 (nI (1600 * b + i)) M = r := by
  have h2 := h.2.1
  have h5 := h.2.2.2.2
  have hE : ¬ (1600 : Int32) * gI M 13 + gA M 15 ((2 : Int32) * gI M 13 + nI wh).toNatClampNeg ≤ nI (1600 * b + i) := by rw [h.v]; exact nI_ge (by omega) (by omega)
  have c0 : (nI (1600 * b + i)).toNatClampNeg = 1600 * b + i := nI_clamp (by omega)
  unfold rL
  rw [lpS, bX12_reckons_25]
  refine eq_f h.o (eq_f hE (eq_f (nI_in (by omega) (by decide)) (eq_e (v' := c) (by rw [c0]; exact hc) ?_)))
  exact H
theorem y105 {n0 k b i w : Nat} {x1 : Int32} {v : Int64} {M : Mem} (hk : k < 500) : fX12_reckons_105 n0 (rL n0 w) x1 (nI k) (nI (1600 * b + i)) (nI k) v M = rL n0 w x1 (nI (k + 1)) (nI (1600 * b + (i + 1))) (sB M 34 k v) := by
  unfold fX12_reckons_105 fX12_reckons_221
  refine eq_f (nI_in hk (by decide)) (eq_n ?_)
  rw [nI_clamp (by omega), nI_1, nI_1]
  rfl
theorem ylit {n0 b wh e i w k : Nat} {M : Mem} (h : YH b wh e M) (hi : i < e) (hk : k < 500) (hc : gA M 16 (1600 * b + i) = 0) : rL n0 (w + 1) (nI wh) (nI k) (nI (1600 * b + i)) M = rL n0 w (nI wh) (nI (k + 1)) (nI (1600 * b + (i + 1))) (sB M 34 k (gA M 17 (1600 * b + i)).toInt64) := by
  have h2 := h.2.1
  have h5 := h.2.2.2.2
  refine yhd h hi 0 hc (eq_f (by decide) (eq_t rfl (eq_f (nI_in (by omega) (by decide)) ?_)))
  rw [nI_clamp (by omega)]
  exact y105 hk
theorem yone {n0 b wh e i w k : Nat} {M : Mem} (h : YH b wh e M) (hi : i < e) (hk : k < 500) (hc : gA M 16 (1600 * b + i) = 30) : rL n0 (w + 1) (nI wh) (nI k) (nI (1600 * b + i)) M = rL n0 w (nI wh) (nI (k + 1)) (nI (1600 * b + (i + 1))) (sB M 34 k 1) :=
  yhd h hi 30 hc (eq_f (by decide) (eq_f (by decide) (eq_t rfl (y105 hk))))
theorem yfact {n0 b wh e i w k s : Nat} {M : Mem} (h : YH b wh e M) (hi : i < e) (hk : k < 500) (hs : 1 ≤ s ∧ s ≤ 6) (hc : gA M 16 (1600 * b + i) = nI s) : rL n0 (w + 1) (nI wh) (nI k) (nI (1600 * b + i)) M = rL n0 w (nI wh) (nI (k + 1)) (nI (1600 * b + (i + 1))) (sB M 34 k (gA M 35 s).toInt64) := by
  have hs6 : s = 1 ∨ s = 2 ∨ s = 3 ∨ s = 4 ∨ s = 5 ∨ s = 6 := by omega
  have t1 : ¬ (30 : Int32) < nI s := by rcases hs6 with h | h | h | h | h | h <;> subst h <;> decide
  have t2 : ¬ nI s = 0 := by rcases hs6 with h | h | h | h | h | h <;> subst h <;> decide
  have t3 : ¬ nI s = 30 := by rcases hs6 with h | h | h | h | h | h <;> subst h <;> decide
  refine yhd h hi (nI s) hc (eq_f t1 (eq_f t2 (eq_f t3 (eq_f (nI_in (by omega) (by decide)) ?_))))
  rw [nI_clamp (by omega)]
  exact y105 hk
