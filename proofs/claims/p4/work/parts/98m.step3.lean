/-! ONE CODE OF A FORMULA ON BOTH SIDES: NOT -/
theorem evnot {n0 q1 b wh e len i j : Nat} {r : List Bool} {MX MY : Mem} (h : EvR q1 b wh e len (true :: r) MX MY) (hr : r.length < 59) (hj : j + 1 < len) (hi : i < e) (hX : gA MX (q1 + 1) j = 0) (hX2 : gA MX (q1 + 1) (j + 1) = -17) (hY : gA MY 16 (1600 * b + i) = 43) : Ev1 n0 q1 b wh e len (true :: r) (true :: r) i j 2 MX MY := by
  have l : (true :: r).length = r.length + 1 := rfl
  obtain ⟨q8, q7, n1, n2, h93, h60, ⟨⟨a, a1, a2, a3, a4⟩, hS⟩, hH, hF⟩ := id h
  have a5 : bR a := a4 rfl
  have hl1 : ¬ gI MX (128 * q1 + 1) ≤ nI j := by rw [n1]; exact nI_ge (by omega) (by omega)
  have f1 : VX MX (sI (sA MX 9 (r.length + 1) 0) 903 (nI (r.length + 1 + 1))) := VX.r.a.i
  have hl2 : ¬ gI (sI (sA MX 9 (r.length + 1) 0) 903 (nI (r.length + 1 + 1))) (128 * q1 + 1) ≤ nI (j + 1) := by rw [f1.2.2.2.2 _ (by omega), n1]; exact nI_ge (by omega) (by omega)
  have b0 : gA (sI (sA MX 9 (r.length + 1) 0) 903 (nI (r.length + 1 + 1))) 9 r.length = zI a := by rw [gA_sI, gA_sA, if_pos rfl, if_neg (by omega)]; exact a1
  have b1 : gA (sI (sA MX 9 (r.length + 1) 0) 903 (nI (r.length + 1 + 1))) 9 (r.length + 1) = zI 0 := by rw [gA_sI, gA_sA, if_pos rfl, if_pos rfl]; exact zi0
  have ev : (1 : Int64) - gB MY 34 r.length = zL (opZ 40 a 0) := by
    rw [a2]
    rcases a5 with g | g <;> subst g <;> decide
  have hb : bR (opZ 40 a 0) := by
    rcases a5 with g | g <;> subst g
    · exact Or.inr rfl
    · exact Or.inl rfl
  have f2 : VX MX (sA (sI (sI (sA MX 9 (r.length + 1) 0) 903 (nI (r.length + 1 + 1))) 903 (nI (r.length + 1))) 9 r.length (zI (opZ 40 a 0))) := VX.r.a.i.i.a
  have hS2 : Stk r (gA (sI (sI (sA MX 9 (r.length + 1) 0) 903 (nI (r.length + 1 + 1))) 903 (nI (r.length + 1))) 9) (gB MY 34) := hS.cong (fun i hi => by rw [gA_sI, gA_sI, gA_sA, if_pos rfl, if_neg (by omega)]) (fun _ _ => rfl)
  refine ⟨sA (sI (sI (sA MX 9 (r.length + 1) 0) 903 (nI (r.length + 1 + 1))) 903 (nI (r.length + 1))) 9 r.length (zI (opZ 40 a 0)), sB MY 34 r.length (zL (opZ 40 a 0)), fun w => ?_, fun w => ?_, h.go f2 VY.r.b (by rw [gI_sA]; exact gI_at) h60 (hS2.put gA_sA_at rfl hb.m (fun _ => hb)), f2, VY.r.b⟩
  · refine Eq.trans (xlit (w := w + 1) (k := r.length + 1) (by omega) h93 (by omega) hl1 hX (by decide)) ?_
    refine xop (by omega) hl2 ((congrFun (f1.2.2.2.1 _ (by omega)) _).trans hX2) (by decide) ?_
    rw [xjoin (k := r.length) (by omega) gI_at (by decide), b0, b1]
    exact x40 (by omega) a3 m0
  · rw [← ev]
    exact ynot hH hi (by omega) hY
