/-! ONE STEP OF A FORMULA'S VALUE, ON EACH SIDE -/
abbrev vL (n0 q1 : Nat) : Nat → Int32 → Mem → Option (Int32 × Mem) := loopN (bX1_valueOf_124 n0 q1) (fun _ _ => none)
abbrev rL (n0 : Nat) : Nat → Int32 → Int32 → Int32 → Mem → Option (Int64 × Mem) := loopN (bX12_reckons_25 n0) (fun _ _ _ _ => none)
theorem x192 {n0 q1 k : Nat} {kk : Int32 → Mem → Option (Int32 × Mem)} {x3 v : Int32} {M : Mem} (hk : k < 64) (h9 : gI M 903 = nI k) : fX1_valueOf_192 n0 q1 kk x3 (gI M 903) v M = kk (x3 + 1) (sI (sA M 9 k v) 903 (nI (k + 1))) := by
  unfold fX1_valueOf_192 fX1_valueOf_203
  rw [h9]
  refine eq_f (nI_in hk (by decide)) (eq_n ?_)
  rw [nI_clamp (by omega), gI_sA, h9, nI_1]
theorem xlit {n0 q1 k j w : Nat} {v : Int32} {M : Mem} (hk : k < 64) (h9 : gI M 903 = nI k) (hj : j < 1600) (hl : ¬ gI M (128 * q1 + 1) ≤ nI j) (hv : gA M (q1 + 1) j = v) (h0 : 0 ≤ v) : vL n0 q1 (w + 1) (nI j) M = vL n0 q1 w (nI (j + 1)) (sI (sA M 9 k v) 903 (nI (k + 1))) := by
  have c : (nI j).toNatClampNeg = j := nI_clamp (by omega)
  have k64 : ¬ (64 : Int32) ≤ gI M 903 := by rw [h9]; exact nI_ge (b := 64) (by omega) (by decide)
  unfold vL
  rw [lpS, bX1_valueOf_124]
  refine eq_f hl (eq_f (nI_in hj (by decide)) (eq_e (v' := v) (by rw [c]; exact hv) (eq_t (by grind) (eq_f k64 (eq_f (by grind) ?_)))))
  rw [x192 hk h9, nI_1]
theorem xfact {n0 q1 k j w s : Nat} {M : Mem} (hk : k < 64) (h9 : gI M 903 = nI k) (hj : j < 1600) (hl : ¬ gI M (128 * q1 + 1) ≤ nI j) (hs : 1 ≤ s ∧ s ≤ 6) (hv : gA M (q1 + 1) j = - nI s) : vL n0 q1 (w + 1) (nI j) M = vL n0 q1 w (nI (j + 1)) (sI (sA M 9 k (gA M 8 (s - 1))) 903 (nI (k + 1))) := by
  have c : (nI j).toNatClampNeg = j := nI_clamp (by omega)
  have k64 : ¬ (64 : Int32) ≤ gI M 903 := by rw [h9]; exact nI_ge (b := 64) (by omega) (by decide)
  have hs6 : s = 1 ∨ s = 2 ∨ s = 3 ∨ s = 4 ∨ s = 5 ∨ s = 6 := by omega
  have t1 : (-6 : Int32) ≤ - nI s := by rcases hs6 with h | h | h | h | h | h <;> subst h <;> decide
  have t2 : - nI s < 0 := by rcases hs6 with h | h | h | h | h | h <;> subst h <;> decide
  have t3 : ¬ oob ((-1 : Int32) - - nI s) 6 := by rcases hs6 with h | h | h | h | h | h <;> subst h <;> decide
  have t4 : ((-1 : Int32) - - nI s).toNatClampNeg = s - 1 := by rcases hs6 with h | h | h | h | h | h <;> subst h <;> decide
  unfold vL
  rw [lpS, bX1_valueOf_124]
  refine eq_f hl (eq_f (nI_in hj (by decide)) (eq_e (v' := - nI s) (by rw [c]; exact hv) (eq_t t1 (eq_f k64 (eq_t t2 (eq_f t3 ?_))))))
  rw [x192 hk h9, nI_1, t4]
theorem xop {n0 q1 j w : Nat} {x : Int32} {M M' : Mem} (hj : j < 1600) (hl : ¬ gI M (128 * q1 + 1) ≤ nI j) (hv : gA M (q1 + 1) j = x) (h6 : ¬ (-6 : Int32) ≤ x) (e : fX1_join n0 x M = some M') : vL n0 q1 (w + 1) (nI j) M = vL n0 q1 w (nI (j + 1)) M' := by
  have c : (nI j).toNatClampNeg = j := nI_clamp (by omega)
  unfold vL
  rw [lpS, bX1_valueOf_124]
  refine eq_f hl (eq_f (nI_in hj (by decide)) (eq_e (v' := x) (by rw [c]; exact hv) (eq_f h6 (eq_b e ?_))))
  unfold fX1_valueOf_203
  rw [nI_1]
theorem xend {n0 q1 k j w : Nat} {M : Mem} (h9 : gI M 903 = nI k) (hk : 0 < k ∧ k ≤ 64) (hl : gI M (128 * q1 + 1) ≤ nI j) : vL n0 q1 (w + 1) (nI j) M = some (gA M 9 0, M) := by
  unfold vL
  rw [lpS, bX1_valueOf_124]
  exact eq_t hl (eq_f (by rw [h9]; exact nI_nle (by omega) (by omega)) (eq_f (by decide) rfl))
