/-! EVERY WAY OF JOINING, THE CLASS AGAINST THE REFERENCE -/
theorem xjz {n0 k : Nat} {v : Int} {y : Int64} {M : Mem} (hk : k < 64) (e : y = zL v) (hv : mR v) : fX1_join_332 n0 (nI k) y M = some (sA M 9 k (zI v)) := by
  rw [e, xj332 hk hv.l, clip_id hv]
theorem xjl {n0 k : Nat} {v : Int} {y : Int64} {M : Mem} (hk : k < 64) (e : y = zL v) (hv : lR v) : fX1_join_332 n0 (nI k) y M = some (sA M 9 k (zI (clip v))) := by
  rw [e, xj332 hk hv]
theorem zIL {a : Int} (h : mR a) : (zI a).toInt64 = zL a := zI_long h.i.1 h.i.2
theorem m0 : mR 0 := by unfold mR; omega
theorem m1 : mR 1 := by unfold mR; omega
theorem x31 {n0 k : Nat} {a b : Int} {M : Mem} (hk : k < 64) (ha : mR a) (hb : mR b) : joinT n0 (-7) (nI k) (zI a) (zI b) M = some (sA M 9 k (zI (opZ 31 a b))) := by
  unfold joinT
  refine (eq_f (by decide) (eq_f (by decide) (eq_f (by decide) (eq_f (by decide) (eq_f (by decide) (eq_f (by decide) (eq_f (by decide) (eq_f (by decide) (eq_f (by decide) (eq_f (by decide) (eq_f (by decide) (eq_f (by decide) (eq_t rfl ?_)))))))))))))
  exact eq_n (xjl (v := a + b) hk (by rw [zIL ha, zIL hb, zL_add]) (by unfold mR at ha hb; unfold lR; omega))
theorem x32 {n0 k : Nat} {a b : Int} {M : Mem} (hk : k < 64) (ha : mR a) (hb : mR b) : joinT n0 (-8) (nI k) (zI a) (zI b) M = some (sA M 9 k (zI (opZ 32 a b))) := by
  unfold joinT
  refine (eq_f (by decide) (eq_f (by decide) (eq_f (by decide) (eq_f (by decide) (eq_f (by decide) (eq_f (by decide) (eq_f (by decide) (eq_f (by decide) (eq_f (by decide) (eq_f (by decide) (eq_f (by decide) (eq_t rfl ?_))))))))))))
  exact eq_n (xjl (v := a - b) hk (by rw [zIL ha, zIL hb, zL_sub]) (by unfold mR at ha hb; unfold lR; omega))
theorem x33 {n0 k : Nat} {a b : Int} {M : Mem} (hk : k < 64) (ha : mR a) (hb : mR b) : joinT n0 (-9) (nI k) (zI a) (zI b) M = some (sA M 9 k (zI (opZ 33 a b))) := by
  unfold joinT
  refine (eq_f (by decide) (eq_f (by decide) (eq_f (by decide) (eq_f (by decide) (eq_f (by decide) (eq_f (by decide) (eq_f (by decide) (eq_f (by decide) (eq_f (by decide) (eq_f (by decide) (eq_t rfl ?_)))))))))))
  exact eq_n (xjl (v := a * b) hk (by rw [zIL ha, zIL hb, zL_mul]) (mul_l ha hb))
theorem x34 {n0 k : Nat} {a b : Int} {M : Mem} (hk : k < 64) (ha : mR a) (hb : mR b) : joinT n0 (-10) (nI k) (zI a) (zI b) M = some (sA M 9 k (zI (opZ 34 a b))) := by
  have eo : opZ 34 a b = clip (flr a b) := rfl
  rw [eo]
  unfold joinT
  refine (eq_f (by decide) (eq_f (by decide) (eq_f (by decide) (eq_f (by decide) (eq_f (by decide) (eq_f (by decide) (eq_f (by decide) (eq_f (by decide) (eq_f (by decide) (eq_t rfl ?_))))))))))
  by_cases g : b = 0
  · have e : flr a b = 0 := by unfold flr; rw [if_pos g]
    rw [e, clip_id m0]
    exact eq_t ((zI_z hb).mpr g) (xjz hk zl0 m0)
  · have h := tdiv_m (b := b) ha
    refine eq_f (fun z => g ((zI_z hb).mp z)) (eq_b (xfloorDiv ha hb g) ?_)
    have h2 : -2147483648 ≤ flr a b ∧ flr a b ≤ 2147483647 := by
      unfold flr; unfold mR at h; rw [if_neg g]
      split <;> omega
    exact xjl hk (zI_long h2.1 h2.2) (flr_l ha)
theorem x35 {n0 k : Nat} {a b : Int} {M : Mem} (hk : k < 64) (ha : mR a) (hb : mR b) : joinT n0 (-11) (nI k) (zI a) (zI b) M = some (sA M 9 k (zI (opZ 35 a b))) := by
  have eo : opZ 35 a b = if b = 0 then 0 else clip (a - b * flr a b) := rfl
  rw [eo]
  unfold joinT
  refine (eq_f (by decide) (eq_f (by decide) (eq_f (by decide) (eq_f (by decide) (eq_f (by decide) (eq_f (by decide) (eq_f (by decide) (eq_f (by decide) (eq_t rfl ?_)))))))))
  by_cases g : b = 0
  · rw [if_pos g]
    exact eq_t ((zI_z hb).mpr g) (xjz hk zl0 m0)
  · rw [if_neg g]
    refine eq_f (fun z => g ((zI_z hb).mp z)) (eq_b (xfloorMod ha hb g) ?_)
    have h2 : -2147483648 ≤ a - b * flr a b ∧ a - b * flr a b ≤ 2147483647 := by
      have m := tmod_m (b := b) ha
      unfold mR at m hb
      unfold flr
      rw [if_neg g]
      by_cases g1 : sSame a b
      · rw [if_pos g1, Int.mul_comm b]; omega
      · rw [if_neg g1, Int.mul_sub, Int.mul_comm b (a.tdiv b), Int.mul_one]; omega
    exact xjl hk (zI_long h2.1 h2.2) (flm_l ha hb)
theorem x36 {n0 k : Nat} {a b : Int} {M : Mem} (hk : k < 64) (ha : mR a) (hb : mR b) : joinT n0 (-12) (nI k) (zI a) (zI b) M = some (sA M 9 k (zI (opZ 36 a b))) := by
  have c := zI_lt (a := b) (b := a) hb.i.1 hb.i.2 ha.i.1 ha.i.2
  have eo : opZ 36 a b = if b ≤ a then b else a := rfl
  rw [eo]
  unfold joinT
  refine (eq_f (by decide) (eq_f (by decide) (eq_f (by decide) (eq_f (by decide) (eq_f (by decide) (eq_f (by decide) (eq_f (by decide) (eq_t rfl ?_))))))))
  unfold imin
  by_cases g : b < a
  · rw [if_pos (c.mpr g), if_pos (show b ≤ a by omega)]
    exact eq_n (xjz hk (zIL hb) hb)
  · rw [if_neg (fun z => g (c.mp z))]
    by_cases g2 : b ≤ a
    · rw [if_pos g2, show b = a by omega]
      exact eq_n (xjz hk (zIL ha) ha)
    · rw [if_neg g2]
      exact eq_n (xjz hk (zIL ha) ha)
theorem x37 {n0 k : Nat} {a b : Int} {M : Mem} (hk : k < 64) (ha : mR a) (hb : mR b) : joinT n0 (-13) (nI k) (zI a) (zI b) M = some (sA M 9 k (zI (opZ 37 a b))) := by
  have c := zI_lt (a := a) (b := b) ha.i.1 ha.i.2 hb.i.1 hb.i.2
  have eo : opZ 37 a b = if a ≤ b then b else a := rfl
  rw [eo]
  unfold joinT
  refine (eq_f (by decide) (eq_f (by decide) (eq_f (by decide) (eq_f (by decide) (eq_f (by decide) (eq_f (by decide) (eq_t rfl ?_)))))))
  unfold imax
  by_cases g : a < b
  · rw [if_pos (c.mpr g), if_pos (show a ≤ b by omega)]
    exact eq_n (xjz hk (zIL hb) hb)
  · rw [if_neg (fun z => g (c.mp z))]
    by_cases g2 : a ≤ b
    · rw [if_pos g2, show b = a by omega]
      exact eq_n (xjz hk (zIL ha) ha)
    · rw [if_neg g2]
      exact eq_n (xjz hk (zIL ha) ha)
theorem x38 {n0 k : Nat} {a b : Int} {M : Mem} (hk : k < 64) (ha : mR a) (hb : mR b) : joinT n0 (-15) (nI k) (zI a) (zI b) M = some (sA M 9 k (zI (opZ 38 a b))) := by
  have c := zI_le (a := b) (b := a) hb.i.1 hb.i.2 ha.i.1 ha.i.2
  have eo : opZ 38 a b = if b ≤ a then 0 else 1 := rfl
  rw [eo]
  unfold joinT
  refine (eq_f (by decide) (eq_f (by decide) (eq_f (by decide) (eq_f (by decide) (eq_t rfl ?_)))))
  by_cases g : b ≤ a
  · rw [if_pos g]; exact eq_t (c.mpr g) (xjz hk zl0 m0)
  · rw [if_neg g]; exact eq_f (fun z => g (c.mp z)) (xjz hk zl1 m1)
theorem x39 {n0 k : Nat} {a b : Int} {M : Mem} (hk : k < 64) (ha : mR a) (hb : mR b) : joinT n0 (-16) (nI k) (zI a) (zI b) M = some (sA M 9 k (zI (opZ 39 a b))) := by
  have c := zI_le (a := a) (b := b) ha.i.1 ha.i.2 hb.i.1 hb.i.2
  have eo : opZ 39 a b = if a ≤ b then 0 else 1 := rfl
  rw [eo]
  unfold joinT
  refine (eq_f (by decide) (eq_f (by decide) (eq_f (by decide) (eq_t rfl ?_))))
  by_cases g : a ≤ b
  · rw [if_pos g]; exact eq_t (c.mpr g) (xjz hk zl0 m0)
  · rw [if_neg g]; exact eq_f (fun z => g (c.mp z)) (xjz hk zl1 m1)
theorem x40 {n0 k : Nat} {a b : Int} {M : Mem} (hk : k < 64) (ha : mR a) (hb : mR b) : joinT n0 (-17) (nI k) (zI a) (zI b) M = some (sA M 9 k (zI (opZ 40 a b))) := by
  have c := zI_eq (a := a) (b := b) ha.i.1 ha.i.2 hb.i.1 hb.i.2
  have eo : opZ 40 a b = if a = b then 1 else 0 := rfl
  rw [eo]
  unfold joinT
  refine (eq_f (by decide) (eq_f (by decide) (eq_t rfl ?_)))
  by_cases g : a = b
  · rw [if_pos g]; exact eq_t (c.mpr g) (xjz hk zl1 m1)
  · rw [if_neg g]; exact eq_f (fun z => g (c.mp z)) (xjz hk zl0 m0)
theorem x41 {n0 k : Nat} {a b : Int} {M : Mem} (hk : k < 64) (ha : bR a) (hb : bR b) : joinT n0 (-18) (nI k) (zI a) (zI b) M = some (sA M 9 k (zI (opZ 41 a b))) := by
  unfold joinT
  refine (eq_f (by decide) (eq_t rfl ?_))
  rcases ha with g | g <;> rcases hb with g2 | g2 <;> subst g <;> subst g2
  · exact eq_n (xjz hk (by decide) m0)
  · exact eq_n (xjz hk (by decide) m0)
  · exact eq_n (xjz hk (by decide) m0)
  · exact eq_n (xjz hk (by decide) m1)
theorem x42 {n0 k : Nat} {a b : Int} {M : Mem} (hk : k < 64) (ha : bR a) (hb : bR b) : joinT n0 (-19) (nI k) (zI a) (zI b) M = some (sA M 9 k (zI (opZ 42 a b))) := by
  unfold joinT
  refine (eq_t rfl ?_)
  rcases ha with g | g <;> rcases hb with g2 | g2 <;> subst g <;> subst g2
  · exact eq_n (xjz hk (by decide) m0)
  · exact eq_n (xjz hk (by decide) m1)
  · exact eq_n (xjz hk (by decide) m1)
  · exact eq_n (xjz hk (by decide) m1)
