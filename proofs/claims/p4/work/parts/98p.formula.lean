/-! A WHOLE FORMULA ON BOTH SIDES -/
theorem evL {n0 q1 b wh e len : Nat} : ∀ (δ : List (Int32 × Int32)) (st st' : List Bool) (i j : Nat) (MX MY : Mem), EvR q1 b wh e len st MX MY → tyL δ st = some st' → j + (exL δ).length = len → i + δ.length = e → (∀ t x, (exL δ)[t]? = some x → gA MX (q1 + 1) (j + t) = x) → (∀ (t : Nat) (c : Int32 × Int32), δ[t]? = some c → gA MY 16 (1600 * b + (i + t)) = c.1 ∧ gA MY 17 (1600 * b + (i + t)) = c.2) →
    ∃ MX' MY', (∀ w, vL n0 q1 (w + (exL δ).length) (nI j) MX = vL n0 q1 w (nI len) MX') ∧ (∀ w, rL n0 (w + δ.length) (nI wh) (nI st.length) (nI (1600 * b + i)) MY = rL n0 w (nI wh) (nI st'.length) (nI (1600 * b + e)) MY') ∧ EvR q1 b wh e len st' MX' MY' ∧ VX MX MX' ∧ VY MY MY'
  | [], st, st', i, j, MX, MY, h, ht, hj, hi, _, _ => by
    have e1 : (exL []).length = 0 := rfl
    have e2 : ([] : List (Int32 × Int32)).length = 0 := rfl
    have ht2 : some st = some st' := ht
    cases ht2
    exact ⟨MX, MY, fun w => by rw [show j = len by omega]; rfl, fun w => by rw [show i = e by omega]; rfl, h, VX.r, VY.r⟩
  | (c1, c2) :: δ, st, st', i, j, MX, MY, h, ht, hj, hi, hX, hY => by
    have ee : exL ((c1, c2) :: δ) = ex1 (c1, c2) ++ exL δ := rfl
    have el : ((c1, c2) :: δ).length = δ.length + 1 := rfl
    have ht2 : (ty1 (c1, c2) st).bind (tyL δ) = some st' := ht
    obtain ⟨st1, k1, k2⟩ := Option.bind_eq_some_iff.mp ht2
    rw [ee, List.length_append] at hj
    have y0 := hY 0 (c1, c2) rfl
    obtain ⟨M1, N1, a1, a2, a3, a4, a5⟩ := ev1 (n0 := n0) (j := j) (i := i) h k1 (by omega) (by omega) (fun t x hx => hX t x (by rw [ee]; exact (List.getElem?_append_left (List.getElem?_eq_some_iff.mp hx).1).trans hx)) y0.1 y0.2
    have q8 := h.1
    obtain ⟨M2, N2, d1, d2, d3, d4, d5⟩ := evL (n0 := n0) δ st1 st' (i + 1) (j + (ex1 (c1, c2)).length) M1 N1 a3 k2 (by omega) (by omega) (fun t x hx => by
      rw [a4.2.2.2.1 _ (by omega), Nat.add_assoc]
      exact hX _ x (by rw [ee, List.getElem?_append_right (by omega), Nat.add_sub_cancel_left]; exact hx)) (fun t c hc => by
      rw [a5.2.2.1, Nat.add_assoc i 1 t, Nat.add_comm 1 t]
      exact hY (t + 1) c hc)
    refine ⟨M2, N2, fun w => ?_, fun w => ?_, d3, a4.tr d4, a5.tr d5⟩
    · rw [ee, List.length_append, Nat.add_comm (ex1 (c1, c2)).length, ← Nat.add_assoc, a1]
      exact d1 w
    · rw [el, ← Nat.add_assoc, a2]
      exact d2 w
