/-! ONE STEP OF A FORMULA'S VALUE BY THE REFERENCE: what joins -/
theorem nIm1 (k : Nat) : nI (k + 1) + (-1 : Int32) = nI k := by
  rw [← nI_1]
  grind
theorem nIm2 (k : Nat) : nI (k + 2) + (-2 : Int32) = nI k := by
  rw [show k + 2 = k + 1 + 1 from rfl, ← nI_1, ← nI_1]
  grind
theorem ynot {n0 b wh e i w k : Nat} {M : Mem} (h : YH b wh e M) (hi : i < e) (hk : k < 500) (hc : gA M 16 (1600 * b + i) = 43) : rL n0 (w + 1) (nI wh) (nI (k + 1)) (nI (1600 * b + i)) M = rL n0 w (nI wh) (nI (k + 1)) (nI (1600 * b + (i + 1))) (sB M 34 k (1 - gB M 34 k)) := by
  have o : ¬ oob (nI (k + 1) - 1) 500 := by rw [nIs]; exact nI_in hk (by decide)
  have c : (nI (k + 1) - 1).toNatClampNeg = k := by rw [nIs]; exact nI_clamp (by omega)
  refine yhd h hi 43 hc (eq_t (by decide) (eq_t rfl (eq_f o (eq_f o ?_))))
  unfold fX12_reckons_221
  rw [nI_1, c]
  rfl
theorem ytw {n0 b wh e i w k : Nat} {M : Mem} {c : Int32} {v : Int64} (h : YH b wh e M) (hi : i < e) (hk : k + 1 < 500) (hc : gA M 16 (1600 * b + i) = c) (h30 : (30 : Int32) < c) (h43 : ¬ c = 43) (h44 : ¬ c = 44) (ev : fX12_two n0 c (gB M 34 k) (gB M 34 (k + 1)) M = some (v, M)) : rL n0 (w + 1) (nI wh) (nI (k + 2)) (nI (1600 * b + i)) M = rL n0 w (nI wh) (nI (k + 1)) (nI (1600 * b + (i + 1))) (sB M 34 k v) := by
  have s1 : nI (k + 2) + (-1 : Int32) = nI (k + 1) := nIm1 (k + 1)
  have c1 : (nI (k + 1)).toNatClampNeg = k + 1 := nI_clamp (by omega)
  have c0 : (nI k).toNatClampNeg = k := nI_clamp (by omega)
  refine yhd h hi c hc (eq_t h30 (eq_f h43 (eq_f h44 ?_)))
  simp only [s1, nIs, c0, c1]
  refine eq_f (nI_in (by omega) (by decide)) (eq_f (nI_in (by omega) (by decide)) (eq_b ev (eq_f (nI_in (by omega) (by decide)) ?_)))
  unfold fX12_reckons_221
  rw [nI_1]
  rfl
theorem yif {n0 b wh e i w k : Nat} {M : Mem} {a : Int} (h : YH b wh e M) (hi : i < e) (hk : k + 2 < 500) (hc : gA M 16 (1600 * b + i) = 44) (ha : bR a) (ea : gB M 34 k = zL a) : rL n0 (w + 1) (nI wh) (nI (k + 3)) (nI (1600 * b + i)) M = rL n0 w (nI wh) (nI (k + 1)) (nI (1600 * b + (i + 1))) (sB M 34 k (if a = 1 then gB M 34 (k + 1) else gB M 34 (k + 2))) := by
  have s2 : nI (k + 3) + (-2 : Int32) = nI (k + 1) := nIm2 (k + 1)
  have c2 : (nI (k + 2)).toNatClampNeg = k + 2 := nI_clamp (by omega)
  have c1 : (nI (k + 1)).toNatClampNeg = k + 1 := nI_clamp (by omega)
  have c0 : (nI k).toNatClampNeg = k := nI_clamp (by omega)
  have r1 : lR 1 := by unfold lR; omega
  have cc := lgc_eq ha.m.l r1
  refine yhd h hi 44 hc (eq_t (by decide) (eq_f (by decide) (eq_t rfl ?_)))
  simp only [s2, nIs, nI_1, c0, c1, c2, ea]
  refine eq_f (nI_in (by omega) (by decide)) ?_
  rw [zl1]
  by_cases g : a = 1
  · rw [if_pos g]
    refine eq_t (cc.mpr g) (eq_f (nI_in (by omega) (by decide)) ?_)
    unfold fX12_reckons_187 fX12_reckons_221
    refine eq_f (nI_in (by omega) (by decide)) ?_
    rw [c0, nI_1]
    rfl
  · rw [if_neg g]
    refine eq_f (fun z => g (cc.mp z)) (eq_f (nI_in (by omega) (by decide)) ?_)
    unfold fX12_reckons_187 fX12_reckons_221
    refine eq_f (nI_in (by omega) (by decide)) ?_
    rw [c0, nI_1]
    rfl
theorem yend {n0 b wh e w : Nat} {x2 : Int32} {M : Mem} (h : YH b wh e M) : rL n0 (w + 1) (nI wh) x2 (nI (1600 * b + e)) M = some (gB M 34 0, M) := by
  have h2 := h.2.1
  have h5 := h.2.2.2.2
  unfold rL
  rw [lpS, bX12_reckons_25]
  exact eq_f h.o (eq_t (by rw [h.v]; exact nI_le (by omega) (by omega)) (eq_f (by decide) rfl))
/-- the class chooses one of two -/
theorem xif {n0 k : Nat} {a v1 v2 : Int} {M : Mem} (hk : k + 2 < 64) (h9 : gI M 903 = nI (k + 3)) (e0 : gA M 9 k = zI a) (e1 : gA M 9 (k + 1) = zI v1) (e2 : gA M 9 (k + 2) = zI v2) (ha : bR a) (m1 : mR v1) (m2 : mR v2) : fX1_join n0 (-14) M = some (sA (sI M 903 (nI (k + 1))) 9 k (zI (if a = 1 then v1 else v2))) := by
  have c0 : (nI k).toNatClampNeg = k := nI_clamp (by omega)
  have c1 : (nI (k + 1)).toNatClampNeg = k + 1 := nI_clamp (by omega)
  have c2 : (nI (k + 2)).toNatClampNeg = k + 2 := nI_clamp (by omega)
  have p2 : nI k + (2 : Int32) = nI (k + 2) := by rw [show (2 : Int32) = nI 2 from rfl, nI_add]
  have o0 : ¬ oob (nI k) 64 := nI_in (by omega) (by decide)
  have o1 : ¬ oob (nI k + 1) 64 := by rw [nI_1]; exact nI_in (by omega) (by decide)
  have o2 : ¬ oob (nI k + 2) 64 := by rw [p2]; exact nI_in (by omega) (by decide)
  have q1 : gI M 903 - ((3 : Int32) - 1) = nI (k + 1) := by
    rw [h9, ← nIm2 (k + 1)]
    grind
  unfold fX1_join fX1_join_11
  refine eq_t rfl (eq_t (by rw [h9]; exact nI_le (a := 3) (by omega) (by omega)) (eq_e (v' := sI M 903 (nI (k + 1))) (by rw [q1]) (eq_e (v' := nI k) (by rw [gI_at]; exact nIs k) (eq_f o0 (eq_e (v' := zI a) (by rw [c0]; exact e0) (eq_f o1 (eq_e (v' := zI v1) (by rw [nI_1, c1]; exact e1) ?_)))))))
  refine eq_f (by decide) (eq_f (by decide) (eq_f (by decide) (eq_f (by decide) (eq_f (by decide) (eq_t rfl ?_)))))
  by_cases g : a = 0
  · rw [if_neg (show ¬ a = 1 by omega)]
    refine eq_t ((zI_z ha.m).mpr g) (eq_f o2 ?_)
    exact xjz (by omega) (by rw [p2, c2, gA_sI, e2]; exact zIL m2) m2
  · rw [if_pos (show a = 1 from ha.resolve_left g)]
    exact eq_f (fun z => g ((zI_z ha.m).mp z)) (xjz (by omega) (zIL m1) m1)
