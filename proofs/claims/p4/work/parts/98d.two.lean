/-! TWO VALUES JOINED, ON BOTH SIDES -/
theorem mul_l {a b : Int} (ha : mR a) (hb : mR b) : lR (a * b) := by
  have h := Int.natAbs_mul a b
  have h2 : a.natAbs * b.natAbs ≤ 1000000 * 1000000 := Nat.mul_le_mul (by unfold mR at ha; omega) (by unfold mR at hb; omega)
  unfold lR
  omega
theorem flm_l {a b : Int} (ha : mR a) (hb : mR b) : lR (a - b * flr a b) := by
  have m := tmod_m (b := b) ha
  unfold mR at m ha hb
  unfold lR flr
  by_cases g : b = 0
  · rw [if_pos g]; omega
  · rw [if_neg g]
    by_cases g1 : sSame a b
    · rw [if_pos g1, Int.mul_comm b]; omega
    · rw [if_neg g1, Int.mul_sub, Int.mul_comm b (a.tdiv b), Int.mul_one]; omega
def opZ (c : Int32) (a b : Int) : Int :=
  if c = 31 then clip (a + b) else if c = 32 then clip (a - b) else if c = 33 then clip (a * b) else if c = 34 then clip (flr a b) else if c = 35 then (if b = 0 then 0 else clip (a - b * flr a b)) else if c = 36 then (if b ≤ a then b else a) else if c = 37 then (if a ≤ b then b else a) else if c = 38 then (if b ≤ a then 0 else 1) else if c = 39 then (if a ≤ b then 0 else 1) else if c = 40 then (if a = b then 1 else 0) else if c = 41 then (if a = 0 then 0 else b) else (if a = 0 then b else 1)
theorem y31 {n0 : Nat} {a b : Int} {M : Mem} (ha : mR a) (hb : mR b) : fX12_two n0 31 (zL a) (zL b) M = some (zL (opZ 31 a b), M) := by
  unfold fX12_two
  refine eq_t rfl (eq_b (z := (zL (clip (a + b)), M)) ?_ rfl)
  rw [zL_add]
  exact ywithin (by unfold mR at ha hb; unfold lR; omega)
theorem y32 {n0 : Nat} {a b : Int} {M : Mem} (ha : mR a) (hb : mR b) : fX12_two n0 32 (zL a) (zL b) M = some (zL (opZ 32 a b), M) := by
  unfold fX12_two
  refine eq_f (by decide) (eq_t rfl (eq_b (z := (zL (clip (a - b)), M)) ?_ rfl))
  rw [zL_sub]
  exact ywithin (by unfold mR at ha hb; unfold lR; omega)
theorem y33 {n0 : Nat} {a b : Int} {M : Mem} (ha : mR a) (hb : mR b) : fX12_two n0 33 (zL a) (zL b) M = some (zL (opZ 33 a b), M) := by
  unfold fX12_two
  refine eq_f (by decide) (eq_f (by decide) (eq_t rfl (eq_b (z := (zL (clip (a * b)), M)) ?_ rfl)))
  rw [zL_mul]
  exact ywithin (mul_l ha hb)
theorem y34 {n0 : Nat} {a b : Int} {M : Mem} (ha : mR a) (hb : mR b) : fX12_two n0 34 (zL a) (zL b) M = some (zL (opZ 34 a b), M) := by
  unfold fX12_two
  exact eq_f (by decide) (eq_f (by decide) (eq_f (by decide) (eq_t rfl (eq_b (yfloor ha hb) (eq_b (ywithin (flr_l ha)) rfl)))))
theorem y35 {n0 : Nat} {a b : Int} {M : Mem} (ha : mR a) (hb : mR b) : fX12_two n0 35 (zL a) (zL b) M = some (zL (opZ 35 a b), M) := by
  have r0 : lR 0 := by unfold lR; omega
  have cb0 := lgc_eq hb.l r0
  have eo : opZ 35 a b = if b = 0 then 0 else clip (a - b * flr a b) := rfl
  rw [eo]
  unfold fX12_two
  refine eq_f (by decide) (eq_f (by decide) (eq_f (by decide) (eq_f (by decide) (eq_t rfl ?_))))
  rw [zl0]
  by_cases g : b = 0
  · rw [if_pos (cb0.mpr g), if_pos g]
  · rw [if_neg (fun z => g (cb0.mp z)), if_neg g]
    refine eq_b (yfloor ha hb) (eq_b (z := (zL (clip (a - b * flr a b)), M)) ?_ rfl)
    dsimp only
    rw [zL_mul, zL_sub]
    exact ywithin (flm_l ha hb)
theorem y36 {n0 : Nat} {a b : Int} {M : Mem} (ha : mR a) (hb : mR b) : fX12_two n0 36 (zL a) (zL b) M = some (zL (opZ 36 a b), M) := by
  have c := lgc_ge ha.l hb.l
  have eo : opZ 36 a b = if b ≤ a then b else a := rfl
  rw [eo]
  unfold fX12_two
  refine eq_f (by decide) (eq_f (by decide) (eq_f (by decide) (eq_f (by decide) (eq_f (by decide) (eq_t rfl ?_)))))
  by_cases g : b ≤ a
  · rw [if_pos (c.mpr g), if_pos g]
  · rw [if_neg (fun z => g (c.mp z)), if_neg g]
theorem y37 {n0 : Nat} {a b : Int} {M : Mem} (ha : mR a) (hb : mR b) : fX12_two n0 37 (zL a) (zL b) M = some (zL (opZ 37 a b), M) := by
  have c := lgc_le ha.l hb.l
  have eo : opZ 37 a b = if a ≤ b then b else a := rfl
  rw [eo]
  unfold fX12_two
  refine eq_f (by decide) (eq_f (by decide) (eq_f (by decide) (eq_f (by decide) (eq_f (by decide) (eq_f (by decide) (eq_t rfl ?_))))))
  by_cases g : a ≤ b
  · rw [if_pos (c.mpr g), if_pos g]
  · rw [if_neg (fun z => g (c.mp z)), if_neg g]
theorem y38 {n0 : Nat} {a b : Int} {M : Mem} (ha : mR a) (hb : mR b) : fX12_two n0 38 (zL a) (zL b) M = some (zL (opZ 38 a b), M) := by
  have c := lgc_ge ha.l hb.l
  have eo : opZ 38 a b = if b ≤ a then 0 else 1 := rfl
  rw [eo]
  unfold fX12_two
  refine eq_f (by decide) (eq_f (by decide) (eq_f (by decide) (eq_f (by decide) (eq_f (by decide) (eq_f (by decide) (eq_f (by decide) (eq_t rfl ?_)))))))
  by_cases g : b ≤ a
  · rw [if_pos (c.mpr g), if_pos g, ← zl0]
  · rw [if_neg (fun z => g (c.mp z)), if_neg g, ← zl1]
theorem y39 {n0 : Nat} {a b : Int} {M : Mem} (ha : mR a) (hb : mR b) : fX12_two n0 39 (zL a) (zL b) M = some (zL (opZ 39 a b), M) := by
  have c := lgc_le ha.l hb.l
  have eo : opZ 39 a b = if a ≤ b then 0 else 1 := rfl
  rw [eo]
  unfold fX12_two
  refine eq_f (by decide) (eq_f (by decide) (eq_f (by decide) (eq_f (by decide) (eq_f (by decide) (eq_f (by decide) (eq_f (by decide) (eq_f (by decide) (eq_t rfl ?_))))))))
  by_cases g : a ≤ b
  · rw [if_pos (c.mpr g), if_pos g, ← zl0]
  · rw [if_neg (fun z => g (c.mp z)), if_neg g, ← zl1]
theorem y40 {n0 : Nat} {a b : Int} {M : Mem} (ha : mR a) (hb : mR b) : fX12_two n0 40 (zL a) (zL b) M = some (zL (opZ 40 a b), M) := by
  have c := lgc_eq ha.l hb.l
  have eo : opZ 40 a b = if a = b then 1 else 0 := rfl
  rw [eo]
  unfold fX12_two
  refine eq_f (by decide) (eq_f (by decide) (eq_f (by decide) (eq_f (by decide) (eq_f (by decide) (eq_f (by decide) (eq_f (by decide) (eq_f (by decide) (eq_f (by decide) (eq_t rfl ?_)))))))))
  by_cases g : a = b
  · rw [if_pos (c.mpr g), if_pos g, ← zl1]
  · rw [if_neg (fun z => g (c.mp z)), if_neg g, ← zl0]
def bR (a : Int) : Prop := a = 0 ∨ a = 1
theorem bR.m {a : Int} (h : bR a) : mR a := by unfold bR at h; unfold mR; omega
theorem y41 {n0 : Nat} {a b : Int} {M : Mem} (ha : bR a) (hb : bR b) : fX12_two n0 41 (zL a) (zL b) M = some (zL (opZ 41 a b), M) := by
  rcases ha with g | g <;> rcases hb with g2 | g2 <;> subst g <;> subst g2 <;> rfl
theorem y42 {n0 : Nat} {a b : Int} {M : Mem} (ha : bR a) (hb : bR b) : fX12_two n0 42 (zL a) (zL b) M = some (zL (opZ 42 a b), M) := by
  rcases ha with g | g <;> rcases hb with g2 | g2 <;> subst g <;> subst g2 <;> rfl
