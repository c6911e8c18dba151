section
/-! FLOORS ON BOTH SIDES -/
theorem tmod_m {a b : Int} (ha : mR a) : mR (a - a.tdiv b * b) := by
  have h := Int.natAbs_tmod a b
  have h2 := Nat.mod_le a.natAbs b.natAbs
  have h3 := Int.tmod_def a b
  rw [Int.mul_comm] at h3
  unfold mR at ha ⊢
  rw [h3] at h
  omega
abbrev sSame (a b : Int) : Prop := a - a.tdiv b * b = 0 ∨ (0 ≤ a ↔ 0 ≤ b)
def flr (a b : Int) : Int := if b = 0 then 0 else if sSame a b then a.tdiv b else a.tdiv b - 1
theorem flr_l {a b : Int} (ha : mR a) : lR (flr a b) := by
  have h := tdiv_m (b := b) ha
  unfold flr lR
  unfold mR at h
  split
  · omega
  · split <;> omega
theorem mR.l {a : Int} (h : mR a) : lR a := by unfold mR at h; unfold lR; omega
theorem yfloor {n0 : Nat} {a b : Int} {M : Mem} (ha : mR a) (hb : mR b) : fX12_floor n0 (zL a) (zL b) M = some (zL (flr a b), M) := by
  have r0 : lR 0 := by unfold lR; omega
  have cb0 := lgc_eq hb.l r0
  have cb := lgc_ge hb.l r0
  have ca := lgc_ge ha.l r0
  have er : rem64 (zL a) (zL b) = zL (a - a.tdiv b * b) := by
    unfold rem64
    rw [zL_div ha hb, zL_mul, zL_sub]
  have cr := lgc_eq (tmod_m (b := b) ha).l r0
  have e0 : zL b = 0 ↔ b = 0 := by
    rw [zl0]
    have := hb.l
    unfold lR at this
    exact zL_eq (by omega) (by omega) (by omega) (by omega)
  unfold fX12_floor flr
  rw [er, zL_div ha hb]
  by_cases g : b = 0
  · rw [if_pos g, if_pos (by rw [zl0]; exact cb0.mpr g), ← zl0]
  · have gn : ¬ zL b = 0 := fun z => g (e0.mp z)
    rw [if_neg g, if_neg (by rw [zl0]; exact fun z => g (cb0.mp z))]
    refine eq_f gn (eq_n (eq_f gn ?_))
    rw [zl0]
    by_cases g1 : a - a.tdiv b * b = 0
    · rw [if_pos (show sSame a b from Or.inl g1)]
      exact eq_t (cr.mpr g1) rfl
    · refine eq_f (fun z => g1 (cr.mp z)) ?_
      unfold fX12_floor_32 fX12_floor_43
      rw [zl0]
      by_cases g2 : 0 ≤ a
      · refine eq_t (ca.mpr g2) ?_
        by_cases g3 : 0 ≤ b
        · rw [if_pos (show sSame a b from Or.inr ⟨fun _ => g3, fun _ => g2⟩)]
          exact eq_t (cb.mpr g3) (eq_t rfl rfl)
        · rw [if_neg (show ¬ sSame a b from fun z => z.elim g1 (fun y => g3 (y.mp g2)))]
          refine eq_f (fun z => g3 (cb.mp z)) (eq_f (by decide) ?_)
          rw [zl1, zL_sub]
      · refine eq_f (fun z => g2 (ca.mp z)) ?_
        by_cases g3 : 0 ≤ b
        · rw [if_neg (show ¬ sSame a b from fun z => z.elim g1 (fun y => g2 (y.mpr g3)))]
          refine eq_t (cb.mpr g3) (eq_f (by decide) ?_)
          rw [zl1, zL_sub]
        · rw [if_pos (show sSame a b from Or.inr ⟨fun h => absurd h g2, fun h => absurd h g3⟩)]
          exact eq_f (fun z => g3 (cb.mp z)) (eq_t rfl rfl)
theorem zi0 : (0 : Int32) = zI 0 := by decide
theorem zi1 : (1 : Int32) = zI 1 := by decide
theorem mR.i {a : Int} (h : mR a) : -2147483648 ≤ a ∧ a ≤ 2147483647 := by unfold mR at h; omega
theorem zI_nn {a : Int} (h : mR a) : 0 ≤ zI a ↔ 0 ≤ a := by
  rw [zi0]
  exact zI_le (by omega) (by omega) h.i.1 h.i.2
theorem zI_z {a : Int} (h : mR a) : zI a = 0 ↔ a = 0 := by
  rw [zi0]
  exact zI_eq h.i.1 h.i.2 (by omega) (by omega)
theorem xfloorDiv {n0 : Nat} {a b : Int} {M : Mem} (ha : mR a) (hb : mR b) (h0 : ¬ b = 0) : fJ9_floorDiv_7cf53 n0 (zI a) (zI b) M = some (zI (flr a b), M) := by
  have ct : zI a / zI b * zI b = zI a ↔ a - a.tdiv b * b = 0 := by
    have m := tmod_m (b := b) ha
    have i := ha.i
    unfold mR at m ha
    rw [zI_div ha hb, zI_mul, zI_eq (by omega) (by omega) i.1 i.2]
    omega
  unfold fJ9_floorDiv_7cf53 flr
  refine eq_f (fun z => h0 ((zI_z hb).mp z)) (eq_n ?_)
  rw [if_neg h0]
  by_cases g : 0 ≤ zI a ^^^ zI b
  · rw [if_pos (show sSame a b from Or.inr (by rw [← zI_nn ha, ← zI_nn hb]; exact xsign.mp g))]
    refine eq_t g ?_
    rw [zI_div ha hb]
  · refine eq_f g ?_
    by_cases g1 : a - a.tdiv b * b = 0
    · rw [if_pos (show sSame a b from Or.inl g1)]
      refine eq_t (ct.mpr g1) ?_
      rw [zI_div ha hb]
    · rw [if_neg (show ¬ sSame a b from fun z => z.elim g1 (fun y => g (xsign.mpr (by rw [zI_nn ha, zI_nn hb]; exact y))))]
      refine eq_f (fun z => g1 (ct.mp z)) ?_
      rw [zI_div ha hb, zi1, zI_sub]
theorem xfloorMod {n0 : Nat} {a b : Int} {M : Mem} (ha : mR a) (hb : mR b) (h0 : ¬ b = 0) : fJ9_floorMod_7cf53 n0 (zI a) (zI b) M = some (zI (a - b * flr a b), M) := by
  have er : rem32 (zI a) (zI b) = zI (a - a.tdiv b * b) := by
    unfold rem32
    rw [zI_div ha hb, zI_mul, zI_sub]
  have m := tmod_m (b := b) ha
  unfold fJ9_floorMod_7cf53 flr
  rw [er]
  refine eq_f (fun z => h0 ((zI_z hb).mp z)) (eq_n ?_)
  rw [if_neg h0]
  by_cases g : 0 ≤ zI a ^^^ zI b
  · rw [if_pos (show sSame a b from Or.inr (by rw [← zI_nn ha, ← zI_nn hb]; exact xsign.mp g)), Int.mul_comm]
    exact eq_t g rfl
  · refine eq_f g ?_
    by_cases g1 : a - a.tdiv b * b = 0
    · rw [if_pos (show sSame a b from Or.inl g1), Int.mul_comm b]
      exact eq_t ((zI_z m).mpr g1) rfl
    · rw [if_neg (show ¬ sSame a b from fun z => z.elim g1 (fun y => g (xsign.mpr (by rw [zI_nn ha, zI_nn hb]; exact y))))]
      refine eq_f (fun z => g1 ((zI_z m).mp z)) ?_
      rw [zI_add, Int.mul_sub, Int.mul_comm b (a.tdiv b), Int.mul_one, show a - a.tdiv b * b + b = a - (a.tdiv b * b - b) by omega]
end
section
/-! TWO VALUES JOINED, ON BOTH SIDES -/
theorem mul_l {a b : Int} (ha : mR a) (hb : mR b) : lR (a * b) := by
  have h := Int.natAbs_mul a b
  have h2 : a.natAbs * b.natAbs ≤ 1000000 * 1000000 := Nat.mul_le_mul (by unfold mR at ha; omega) (by unfold mR at hb; omega)
  unfold lR
  omega
theorem flm_l {a b : Int} (ha : mR a) (hb : mR b) : lR (a - b * flr a b) := by
  have m := tmod_m (b := b) ha
  unfold mR at m ha hb
  unfold lR flr
  by_cases g : b = 0
  · rw [if_pos g]; omega
  · rw [if_neg g]
    by_cases g1 : sSame a b
    · rw [if_pos g1, Int.mul_comm b]; omega
    · rw [if_neg g1, Int.mul_sub, Int.mul_comm b (a.tdiv b), Int.mul_one]; omega
def opZ (c : Int32) (a b : Int) : Int :=
  if c = 31 then clip (a + b) else if c = 32 then clip (a - b) else if c = 33 then clip (a * b) else if c = 34 then clip (flr a b) else if c = 35 then (if b = 0 then 0 else clip (a - b * flr a b)) else if c = 36 then (if b ≤ a then b else a) else if c = 37 then (if a ≤ b then b else a) else if c = 38 then (if b ≤ a then 0 else 1) else if c = 39 then (if a ≤ b then 0 else 1) else if c = 40 then (if a = b then 1 else 0) else if c = 41 then (if a = 0 then 0 else b) else (if a = 0 then b else 1)
theorem y31 {n0 : Nat} {a b : Int} {M : Mem} (ha : mR a) (hb : mR b) : fX12_two n0 31 (zL a) (zL b) M = some (zL (opZ 31 a b), M) := by
  unfold fX12_two
  refine eq_t rfl (eq_b (z := (zL (clip (a + b)), M)) ?_ rfl)
  rw [zL_add]
  exact ywithin (by unfold mR at ha hb; unfold lR; omega)
theorem y32 {n0 : Nat} {a b : Int} {M : Mem} (ha : mR a) (hb : mR b) : fX12_two n0 32 (zL a) (zL b) M = some (zL (opZ 32 a b), M) := by
  unfold fX12_two
  refine eq_f (by decide) (eq_t rfl (eq_b (z := (zL (clip (a - b)), M)) ?_ rfl))
  rw [zL_sub]
  exact ywithin (by unfold mR at ha hb; unfold lR; omega)
theorem y33 {n0 : Nat} {a b : Int} {M : Mem} (ha : mR a) (hb : mR b) : fX12_two n0 33 (zL a) (zL b) M = some (zL (opZ 33 a b), M) := by
  unfold fX12_two
  refine eq_f (by decide) (eq_f (by decide) (eq_t rfl (eq_b (z := (zL (clip (a * b)), M)) ?_ rfl)))
  rw [zL_mul]
  exact ywithin (mul_l ha hb)
theorem y34 {n0 : Nat} {a b : Int} {M : Mem} (ha : mR a) (hb : mR b) : fX12_two n0 34 (zL a) (zL b) M = some (zL (opZ 34 a b), M) := by
  unfold fX12_two
  exact eq_f (by decide) (eq_f (by decide) (eq_f (by decide) (eq_t rfl (eq_b (yfloor ha hb) (eq_b (ywithin (flr_l ha)) rfl)))))
theorem y35 {n0 : Nat} {a b : Int} {M : Mem} (ha : mR a) (hb : mR b) : fX12_two n0 35 (zL a) (zL b) M = some (zL (opZ 35 a b), M) := by
  have r0 : lR 0 := by unfold lR; omega
  have cb0 := lgc_eq hb.l r0
  have eo : opZ 35 a b = if b = 0 then 0 else clip (a - b * flr a b) := rfl
  rw [eo]
  unfold fX12_two
  refine eq_f (by decide) (eq_f (by decide) (eq_f (by decide) (eq_f (by decide) (eq_t rfl ?_))))
  rw [zl0]
  by_cases g : b = 0
  · rw [if_pos (cb0.mpr g), if_pos g]
  · rw [if_neg (fun z => g (cb0.mp z)), if_neg g]
    refine eq_b (yfloor ha hb) (eq_b (z := (zL (clip (a - b * flr a b)), M)) ?_ rfl)
    dsimp only
    rw [zL_mul, zL_sub]
    exact ywithin (flm_l ha hb)
theorem y36 {n0 : Nat} {a b : Int} {M : Mem} (ha : mR a) (hb : mR b) : fX12_two n0 36 (zL a) (zL b) M = some (zL (opZ 36 a b), M) := by
  have c := lgc_ge ha.l hb.l
  have eo : opZ 36 a b = if b ≤ a then b else a := rfl
  rw [eo]
  unfold fX12_two
  refine eq_f (by decide) (eq_f (by decide) (eq_f (by decide) (eq_f (by decide) (eq_f (by decide) (eq_t rfl ?_)))))
  by_cases g : b ≤ a
  · rw [if_pos (c.mpr g), if_pos g]
  · rw [if_neg (fun z => g (c.mp z)), if_neg g]
theorem y37 {n0 : Nat} {a b : Int} {M : Mem} (ha : mR a) (hb : mR b) : fX12_two n0 37 (zL a) (zL b) M = some (zL (opZ 37 a b), M) := by
  have c := lgc_le ha.l hb.l
  have eo : opZ 37 a b = if a ≤ b then b else a := rfl
  rw [eo]
  unfold fX12_two
  refine eq_f (by decide) (eq_f (by decide) (eq_f (by decide) (eq_f (by decide) (eq_f (by decide) (eq_f (by decide) (eq_t rfl ?_))))))
  by_cases g : a ≤ b
  · rw [if_pos (c.mpr g), if_pos g]
  · rw [if_neg (fun z => g (c.mp z)), if_neg g]
theorem y38 {n0 : Nat} {a b : Int} {M : Mem} (ha : mR a) (hb : mR b) : fX12_two n0 38 (zL a) (zL b) M = some (zL (opZ 38 a b), M) := by
  have c := lgc_ge ha.l hb.l
  have eo : opZ 38 a b = if b ≤ a then 0 else 1 := rfl
  rw [eo]
  unfold fX12_two
  refine eq_f (by decide) (eq_f (by decide) (eq_f (by decide) (eq_f (by decide) (eq_f (by decide) (eq_f (by decide) (eq_f (by decide) (eq_t rfl ?_)))))))
  by_cases g : b ≤ a
  · rw [if_pos (c.mpr g), if_pos g, ← zl0]
  · rw [if_neg (fun z => g (c.mp z)), if_neg g, ← zl1]
theorem y39 {n0 : Nat} {a b : Int} {M : Mem} (ha : mR a) (hb : mR b) : fX12_two n0 39 (zL a) (zL b) M = some (zL (opZ 39 a b), M) := by
  have c := lgc_le ha.l hb.l
  have eo : opZ 39 a b = if a ≤ b then 0 else 1 := rfl
  rw [eo]
  unfold fX12_two
  refine eq_f (by decide) (eq_f (by decide) (eq_f (by decide) (eq_f (by decide) (eq_f (by decide) (eq_f (by decide) (eq_f (by decide) (eq_f (by decide) (eq_t rfl ?_))))))))
  by_cases g : a ≤ b
  · rw [if_pos (c.mpr g), if_pos g, ← zl0]
  · rw [if_neg (fun z => g (c.mp z)), if_neg g, ← zl1]
theorem y40 {n0 : Nat} {a b : Int} {M : Mem} (ha : mR a) (hb : mR b) : fX12_two n0 40 (zL a) (zL b) M = some (zL (opZ 40 a b), M) := by
  have c := lgc_eq ha.l hb.l
  have eo : opZ 40 a b = if a = b then 1 else 0 := rfl
  rw [eo]
  unfold fX12_two
  refine eq_f (by decide) (eq_f (by decide) (eq_f (by decide) (eq_f (by decide) (eq_f (by decide) (eq_f (by decide) (eq_f (by decide) (eq_f (by decide) (eq_f (by decide) (eq_t rfl ?_)))))))))
  by_cases g : a = b
  · rw [if_pos (c.mpr g), if_pos g, ← zl1]
  · rw [if_neg (fun z => g (c.mp z)), if_neg g, ← zl0]
def bR (a : Int) : Prop := a = 0 ∨ a = 1
theorem bR.m {a : Int} (h : bR a) : mR a := by unfold bR at h; unfold mR; omega
theorem y41 {n0 : Nat} {a b : Int} {M : Mem} (ha : bR a) (hb : bR b) : fX12_two n0 41 (zL a) (zL b) M = some (zL (opZ 41 a b), M) := by
  rcases ha with g | g <;> rcases hb with g2 | g2 <;> subst g <;> subst g2 <;> rfl
theorem y42 {n0 : Nat} {a b : Int} {M : Mem} (ha : bR a) (hb : bR b) : fX12_two n0 42 (zL a) (zL b) M = some (zL (opZ 42 a b), M) := by
  rcases ha with g | g <;> rcases hb with g2 | g2 <;> subst g <;> subst g2 <;> rfl
end
section
/-! TWO VALUES JOINED BY THE CLASS -/
def joinT (n0 : Nat) (x1 x3_39 x4_46 x5_56 : Int32) (M30 : Mem) : Option Mem :=
  if x1 = (-19 : Int32) then
    bnd ((x4_46 ||| x5_56)).toInt64 fun y6_327 =>
    fX1_join_332 n0 x3_39 y6_327 M30
  else
  if x1 = (-18 : Int32) then
    bnd ((x4_46 &&& x5_56)).toInt64 fun y6_316 =>
    fX1_join_332 n0 x3_39 y6_316 M30
  else
  if x1 = (-17 : Int32) then
    if x4_46 = x5_56 then
      fX1_join_305 n0 x3_39 (1 : Int64) M30
    else
      fX1_join_305 n0 x3_39 (0 : Int64) M30
  else
  if x1 = (-16 : Int32) then
    if x4_46 ≤ x5_56 then
      fX1_join_288 n0 x3_39 (0 : Int64) M30
    else
      fX1_join_288 n0 x3_39 (1 : Int64) M30
  else
  if x1 = (-15 : Int32) then
    if x5_56 ≤ x4_46 then
      fX1_join_271 n0 x3_39 (0 : Int64) M30
    else
      fX1_join_271 n0 x3_39 (1 : Int64) M30
  else
  if x1 = (-14 : Int32) then
    if x4_46 = 0 then
      if oob (x3_39 + (2 : Int32)) 64 then none else
      fX1_join_254 n0 x3_39 ((gA M30 9 (Int32.toNatClampNeg (x3_39 + (2 : Int32))))).toInt64 M30
    else
      fX1_join_254 n0 x3_39 (x5_56).toInt64 M30
  else
  if x1 = (-13 : Int32) then
    bnd ((imax x4_46 x5_56)).toInt64 fun y6_229 =>
    fX1_join_332 n0 x3_39 y6_229 M30
  else
  if x1 = (-12 : Int32) then
    bnd ((imin x4_46 x5_56)).toInt64 fun y6_216 =>
    fX1_join_332 n0 x3_39 y6_216 M30
  else
  if x1 = (-11 : Int32) then
    if x5_56 = 0 then
      fX1_join_203 n0 x3_39 (0 : Int64) M30
    else
      (fJ9_floorMod_7cf53 n0 x4_46 x5_56 M30).bind fun z199 =>
      fX1_join_203 n0 x3_39 (z199.1).toInt64 z199.2
  else
  if x1 = (-10 : Int32) then
    if x5_56 = 0 then
      fX1_join_181 n0 x3_39 (0 : Int64) M30
    else
      (fJ9_floorDiv_7cf53 n0 x4_46 x5_56 M30).bind fun z177 =>
      fX1_join_181 n0 x3_39 (z177.1).toInt64 z177.2
  else
  if x1 = (-9 : Int32) then
    bnd ((x4_46).toInt64 * (x5_56).toInt64) fun y6_159 =>
    fX1_join_332 n0 x3_39 y6_159 M30
  else
  if x1 = (-8 : Int32) then
    bnd ((x4_46).toInt64 - (x5_56).toInt64) fun y6_147 =>
    fX1_join_332 n0 x3_39 y6_147 M30
  else
  if x1 = (-7 : Int32) then
    bnd ((x4_46).toInt64 + (x5_56).toInt64) fun y6_135 =>
    fX1_join_332 n0 x3_39 y6_135 M30
  else
  fX1_join_332 n0 x3_39 (0 : Int64) M30
theorem eq_e {α β : Type} {v v' : α} {k : α → Option β} {r : Option β} (e : v = v') (h : k v' = r) : bnd v k = r := by subst e; exact h
theorem nIs (k : Nat) : nI (k + 1) - 1 = nI k := by
  rw [← nI_1]
  grind
theorem xjoin {n0 k : Nat} {x1 : Int32} {M : Mem} (hk : k + 1 < 64) (h9 : gI M 903 = nI (k + 2)) (hx : ¬ x1 = -14) : fX1_join n0 x1 M = joinT n0 x1 (nI k) (gA M 9 k) (gA M 9 (k + 1)) (sI M 903 (nI (k + 1))) := by
  have c0 : (nI k).toNatClampNeg = k := nI_clamp (by omega)
  have c1 : (nI (k + 1)).toNatClampNeg = k + 1 := nI_clamp (by omega)
  have o0 : ¬ oob (nI k) 64 := nI_in (by omega) (by decide)
  have o1 : ¬ oob (nI k + 1) 64 := by rw [nI_1]; exact nI_in (by omega) (by decide)
  have e1 : gI M 903 - ((2 : Int32) - 1) = nI (k + 1) := by rw [h9]; exact nIs (k + 1)
  unfold fX1_join fX1_join_11
  refine eq_f hx (eq_t (by rw [h9]; exact nI_le (a := 2) (by omega) (by omega)) (eq_e (v' := sI M 903 (nI (k + 1))) (by rw [e1]) (eq_e (v' := nI k) (by rw [gI_at]; exact nIs k) (eq_f o0 (eq_e (v' := gA M 9 k) (by rw [c0]; rfl) (eq_f o1 (eq_e (v' := gA M 9 (k + 1)) (by rw [nI_1, c1]; rfl) ?_)))))))
  rfl
theorem xj332 {n0 k : Nat} {v : Int} {M : Mem} (hk : k < 64) (hv : lR v) : fX1_join_332 n0 (nI k) (zL v) M = some (sA M 9 k (zI (clip v))) := by
  unfold fX1_join_332
  refine eq_f (nI_in (by omega) (by decide)) ?_
  rw [xwithin hv, nI_clamp (by omega)]
end
section
/-! EVERY WAY OF JOINING, THE CLASS AGAINST THE REFERENCE -/
theorem xjz {n0 k : Nat} {v : Int} {y : Int64} {M : Mem} (hk : k < 64) (e : y = zL v) (hv : mR v) : fX1_join_332 n0 (nI k) y M = some (sA M 9 k (zI v)) := by
  rw [e, xj332 hk hv.l, clip_id hv]
theorem xjl {n0 k : Nat} {v : Int} {y : Int64} {M : Mem} (hk : k < 64) (e : y = zL v) (hv : lR v) : fX1_join_332 n0 (nI k) y M = some (sA M 9 k (zI (clip v))) := by
  rw [e, xj332 hk hv]
theorem zIL {a : Int} (h : mR a) : (zI a).toInt64 = zL a := zI_long h.i.1 h.i.2
theorem m0 : mR 0 := by unfold mR; omega
theorem m1 : mR 1 := by unfold mR; omega
theorem x31 {n0 k : Nat} {a b : Int} {M : Mem} (hk : k < 64) (ha : mR a) (hb : mR b) : joinT n0 (-7) (nI k) (zI a) (zI b) M = some (sA M 9 k (zI (opZ 31 a b))) := by
  unfold joinT
  refine (eq_f (by decide) (eq_f (by decide) (eq_f (by decide) (eq_f (by decide) (eq_f (by decide) (eq_f (by decide) (eq_f (by decide) (eq_f (by decide) (eq_f (by decide) (eq_f (by decide) (eq_f (by decide) (eq_f (by decide) (eq_t rfl ?_)))))))))))))
  exact eq_n (xjl (v := a + b) hk (by rw [zIL ha, zIL hb, zL_add]) (by unfold mR at ha hb; unfold lR; omega))
theorem x32 {n0 k : Nat} {a b : Int} {M : Mem} (hk : k < 64) (ha : mR a) (hb : mR b) : joinT n0 (-8) (nI k) (zI a) (zI b) M = some (sA M 9 k (zI (opZ 32 a b))) := by
  unfold joinT
  refine (eq_f (by decide) (eq_f (by decide) (eq_f (by decide) (eq_f (by decide) (eq_f (by decide) (eq_f (by decide) (eq_f (by decide) (eq_f (by decide) (eq_f (by decide) (eq_f (by decide) (eq_f (by decide) (eq_t rfl ?_))))))))))))
  exact eq_n (xjl (v := a - b) hk (by rw [zIL ha, zIL hb, zL_sub]) (by unfold mR at ha hb; unfold lR; omega))
theorem x33 {n0 k : Nat} {a b : Int} {M : Mem} (hk : k < 64) (ha : mR a) (hb : mR b) : joinT n0 (-9) (nI k) (zI a) (zI b) M = some (sA M 9 k (zI (opZ 33 a b))) := by
  unfold joinT
  refine (eq_f (by decide) (eq_f (by decide) (eq_f (by decide) (eq_f (by decide) (eq_f (by decide) (eq_f (by decide) (eq_f (by decide) (eq_f (by decide) (eq_f (by decide) (eq_f (by decide) (eq_t rfl ?_)))))))))))
  exact eq_n (xjl (v := a * b) hk (by rw [zIL ha, zIL hb, zL_mul]) (mul_l ha hb))
theorem x34 {n0 k : Nat} {a b : Int} {M : Mem} (hk : k < 64) (ha : mR a) (hb : mR b) : joinT n0 (-10) (nI k) (zI a) (zI b) M = some (sA M 9 k (zI (opZ 34 a b))) := by
  have eo : opZ 34 a b = clip (flr a b) := rfl
  rw [eo]
  unfold joinT
  refine (eq_f (by decide) (eq_f (by decide) (eq_f (by decide) (eq_f (by decide) (eq_f (by decide) (eq_f (by decide) (eq_f (by decide) (eq_f (by decide) (eq_f (by decide) (eq_t rfl ?_))))))))))
  by_cases g : b = 0
  · have e : flr a b = 0 := by unfold flr; rw [if_pos g]
    rw [e, clip_id m0]
    exact eq_t ((zI_z hb).mpr g) (xjz hk zl0 m0)
  · have h := tdiv_m (b := b) ha
    refine eq_f (fun z => g ((zI_z hb).mp z)) (eq_b (xfloorDiv ha hb g) ?_)
    have h2 : -2147483648 ≤ flr a b ∧ flr a b ≤ 2147483647 := by
      unfold flr; unfold mR at h; rw [if_neg g]
      split <;> omega
    exact xjl hk (zI_long h2.1 h2.2) (flr_l ha)
theorem x35 {n0 k : Nat} {a b : Int} {M : Mem} (hk : k < 64) (ha : mR a) (hb : mR b) : joinT n0 (-11) (nI k) (zI a) (zI b) M = some (sA M 9 k (zI (opZ 35 a b))) := by
  have eo : opZ 35 a b = if b = 0 then 0 else clip (a - b * flr a b) := rfl
  rw [eo]
  unfold joinT
  refine (eq_f (by decide) (eq_f (by decide) (eq_f (by decide) (eq_f (by decide) (eq_f (by decide) (eq_f (by decide) (eq_f (by decide) (eq_f (by decide) (eq_t rfl ?_)))))))))
  by_cases g : b = 0
  · rw [if_pos g]
    exact eq_t ((zI_z hb).mpr g) (xjz hk zl0 m0)
  · rw [if_neg g]
    refine eq_f (fun z => g ((zI_z hb).mp z)) (eq_b (xfloorMod ha hb g) ?_)
    have h2 : -2147483648 ≤ a - b * flr a b ∧ a - b * flr a b ≤ 2147483647 := by
      have m := tmod_m (b := b) ha
      unfold mR at m hb
      unfold flr
      rw [if_neg g]
      by_cases g1 : sSame a b
      · rw [if_pos g1, Int.mul_comm b]; omega
      · rw [if_neg g1, Int.mul_sub, Int.mul_comm b (a.tdiv b), Int.mul_one]; omega
    exact xjl hk (zI_long h2.1 h2.2) (flm_l ha hb)
theorem x36 {n0 k : Nat} {a b : Int} {M : Mem} (hk : k < 64) (ha : mR a) (hb : mR b) : joinT n0 (-12) (nI k) (zI a) (zI b) M = some (sA M 9 k (zI (opZ 36 a b))) := by
  have c := zI_lt (a := b) (b := a) hb.i.1 hb.i.2 ha.i.1 ha.i.2
  have eo : opZ 36 a b = if b ≤ a then b else a := rfl
  rw [eo]
  unfold joinT
  refine (eq_f (by decide) (eq_f (by decide) (eq_f (by decide) (eq_f (by decide) (eq_f (by decide) (eq_f (by decide) (eq_f (by decide) (eq_t rfl ?_))))))))
  unfold imin
  by_cases g : b < a
  · rw [if_pos (c.mpr g), if_pos (show b ≤ a by omega)]
    exact eq_n (xjz hk (zIL hb) hb)
  · rw [if_neg (fun z => g (c.mp z))]
    by_cases g2 : b ≤ a
    · rw [if_pos g2, show b = a by omega]
      exact eq_n (xjz hk (zIL ha) ha)
    · rw [if_neg g2]
      exact eq_n (xjz hk (zIL ha) ha)
theorem x37 {n0 k : Nat} {a b : Int} {M : Mem} (hk : k < 64) (ha : mR a) (hb : mR b) : joinT n0 (-13) (nI k) (zI a) (zI b) M = some (sA M 9 k (zI (opZ 37 a b))) := by
  have c := zI_lt (a := a) (b := b) ha.i.1 ha.i.2 hb.i.1 hb.i.2
  have eo : opZ 37 a b = if a ≤ b then b else a := rfl
  rw [eo]
  unfold joinT
  refine (eq_f (by decide) (eq_f (by decide) (eq_f (by decide) (eq_f (by decide) (eq_f (by decide) (eq_f (by decide) (eq_t rfl ?_)))))))
  unfold imax
  by_cases g : a < b
  · rw [if_pos (c.mpr g), if_pos (show a ≤ b by omega)]
    exact eq_n (xjz hk (zIL hb) hb)
  · rw [if_neg (fun z => g (c.mp z))]
    by_cases g2 : a ≤ b
    · rw [if_pos g2, show b = a by omega]
      exact eq_n (xjz hk (zIL ha) ha)
    · rw [if_neg g2]
      exact eq_n (xjz hk (zIL ha) ha)
theorem x38 {n0 k : Nat} {a b : Int} {M : Mem} (hk : k < 64) (ha : mR a) (hb : mR b) : joinT n0 (-15) (nI k) (zI a) (zI b) M = some (sA M 9 k (zI (opZ 38 a b))) := by
  have c := zI_le (a := b) (b := a) hb.i.1 hb.i.2 ha.i.1 ha.i.2
  have eo : opZ 38 a b = if b ≤ a then 0 else 1 := rfl
  rw [eo]
  unfold joinT
  refine (eq_f (by decide) (eq_f (by decide) (eq_f (by decide) (eq_f (by decide) (eq_t rfl ?_)))))
  by_cases g : b ≤ a
  · rw [if_pos g]; exact eq_t (c.mpr g) (xjz hk zl0 m0)
  · rw [if_neg g]; exact eq_f (fun z => g (c.mp z)) (xjz hk zl1 m1)
theorem x39 {n0 k : Nat} {a b : Int} {M : Mem} (hk : k < 64) (ha : mR a) (hb : mR b) : joinT n0 (-16) (nI k) (zI a) (zI b) M = some (sA M 9 k (zI (opZ 39 a b))) := by
  have c := zI_le (a := a) (b := b) ha.i.1 ha.i.2 hb.i.1 hb.i.2
  have eo : opZ 39 a b = if a ≤ b then 0 else 1 := rfl
  rw [eo]
  unfold joinT
  refine (eq_f (by decide) (eq_f (by decide) (eq_f (by decide) (eq_t rfl ?_))))
  by_cases g : a ≤ b
  · rw [if_pos g]; exact eq_t (c.mpr g) (xjz hk zl0 m0)
  · rw [if_neg g]; exact eq_f (fun z => g (c.mp z)) (xjz hk zl1 m1)
theorem x40 {n0 k : Nat} {a b : Int} {M : Mem} (hk : k < 64) (ha : mR a) (hb : mR b) : joinT n0 (-17) (nI k) (zI a) (zI b) M = some (sA M 9 k (zI (opZ 40 a b))) := by
  have c := zI_eq (a := a) (b := b) ha.i.1 ha.i.2 hb.i.1 hb.i.2
  have eo : opZ 40 a b = if a = b then 1 else 0 := rfl
  rw [eo]
  unfold joinT
  refine (eq_f (by decide) (eq_f (by decide) (eq_t rfl ?_)))
  by_cases g : a = b
  · rw [if_pos g]; exact eq_t (c.mpr g) (xjz hk zl1 m1)
  · rw [if_neg g]; exact eq_f (fun z => g (c.mp z)) (xjz hk zl0 m0)
theorem x41 {n0 k : Nat} {a b : Int} {M : Mem} (hk : k < 64) (ha : bR a) (hb : bR b) : joinT n0 (-18) (nI k) (zI a) (zI b) M = some (sA M 9 k (zI (opZ 41 a b))) := by
  unfold joinT
  refine (eq_f (by decide) (eq_t rfl ?_))
  rcases ha with g | g <;> rcases hb with g2 | g2 <;> subst g <;> subst g2
  · exact eq_n (xjz hk (by decide) m0)
  · exact eq_n (xjz hk (by decide) m0)
  · exact eq_n (xjz hk (by decide) m0)
  · exact eq_n (xjz hk (by decide) m1)
theorem x42 {n0 k : Nat} {a b : Int} {M : Mem} (hk : k < 64) (ha : bR a) (hb : bR b) : joinT n0 (-19) (nI k) (zI a) (zI b) M = some (sA M 9 k (zI (opZ 42 a b))) := by
  unfold joinT
  refine (eq_t rfl ?_)
  rcases ha with g | g <;> rcases hb with g2 | g2 <;> subst g <;> subst g2
  · exact eq_n (xjz hk (by decide) m0)
  · exact eq_n (xjz hk (by decide) m1)
  · exact eq_n (xjz hk (by decide) m1)
  · exact eq_n (xjz hk (by decide) m1)
end
section
/-! ONE STEP OF A FORMULA'S VALUE, ON EACH SIDE -/
abbrev vL (n0 q1 : Nat) : Nat → Int32 → Mem → Option (Int32 × Mem) := loopN (bX1_valueOf_124 n0 q1) (fun _ _ => none)
abbrev rL (n0 : Nat) : Nat → Int32 → Int32 → Int32 → Mem → Option (Int64 × Mem) := loopN (bX12_reckons_25 n0) (fun _ _ _ _ => none)
theorem x192 {n0 q1 k : Nat} {kk : Int32 → Mem → Option (Int32 × Mem)} {x3 v : Int32} {M : Mem} (hk : k < 64) (h9 : gI M 903 = nI k) : fX1_valueOf_192 n0 q1 kk x3 (gI M 903) v M = kk (x3 + 1) (sI (sA M 9 k v) 903 (nI (k + 1))) := by
  unfold fX1_valueOf_192 fX1_valueOf_203
  rw [h9]
  refine eq_f (nI_in hk (by decide)) (eq_n ?_)
  rw [nI_clamp (by omega), gI_sA, h9, nI_1]
theorem xlit {n0 q1 k j w : Nat} {v : Int32} {M : Mem} (hk : k < 64) (h9 : gI M 903 = nI k) (hj : j < 1600) (hl : ¬ gI M (128 * q1 + 1) ≤ nI j) (hv : gA M (q1 + 1) j = v) (h0 : 0 ≤ v) : vL n0 q1 (w + 1) (nI j) M = vL n0 q1 w (nI (j + 1)) (sI (sA M 9 k v) 903 (nI (k + 1))) := by
  have c : (nI j).toNatClampNeg = j := nI_clamp (by omega)
  have k64 : ¬ (64 : Int32) ≤ gI M 903 := by rw [h9]; exact nI_ge (b := 64) (by omega) (by decide)
  unfold vL
  rw [lpS, bX1_valueOf_124]
  refine eq_f hl (eq_f (nI_in hj (by decide)) (eq_e (v' := v) (by rw [c]; exact hv) (eq_t (by grind) (eq_f k64 (eq_f (by grind) ?_)))))
  rw [x192 hk h9, nI_1]
theorem xfact {n0 q1 k j w s : Nat} {M : Mem} (hk : k < 64) (h9 : gI M 903 = nI k) (hj : j < 1600) (hl : ¬ gI M (128 * q1 + 1) ≤ nI j) (hs : 1 ≤ s ∧ s ≤ 6) (hv : gA M (q1 + 1) j = - nI s) : vL n0 q1 (w + 1) (nI j) M = vL n0 q1 w (nI (j + 1)) (sI (sA M 9 k (gA M 8 (s - 1))) 903 (nI (k + 1))) := by
  have c : (nI j).toNatClampNeg = j := nI_clamp (by omega)
  have k64 : ¬ (64 : Int32) ≤ gI M 903 := by rw [h9]; exact nI_ge (b := 64) (by omega) (by decide)
  have hs6 : s = 1 ∨ s = 2 ∨ s = 3 ∨ s = 4 ∨ s = 5 ∨ s = 6 := by omega
  have t1 : (-6 : Int32) ≤ - nI s := by rcases hs6 with h | h | h | h | h | h <;> subst h <;> decide
  have t2 : - nI s < 0 := by rcases hs6 with h | h | h | h | h | h <;> subst h <;> decide
  have t3 : ¬ oob ((-1 : Int32) - - nI s) 6 := by rcases hs6 with h | h | h | h | h | h <;> subst h <;> decide
  have t4 : ((-1 : Int32) - - nI s).toNatClampNeg = s - 1 := by rcases hs6 with h | h | h | h | h | h <;> subst h <;> decide
  unfold vL
  rw [lpS, bX1_valueOf_124]
  refine eq_f hl (eq_f (nI_in hj (by decide)) (eq_e (v' := - nI s) (by rw [c]; exact hv) (eq_t t1 (eq_f k64 (eq_t t2 (eq_f t3 ?_))))))
  rw [x192 hk h9, nI_1, t4]
theorem xop {n0 q1 j w : Nat} {x : Int32} {M M' : Mem} (hj : j < 1600) (hl : ¬ gI M (128 * q1 + 1) ≤ nI j) (hv : gA M (q1 + 1) j = x) (h6 : ¬ (-6 : Int32) ≤ x) (e : fX1_join n0 x M = some M') : vL n0 q1 (w + 1) (nI j) M = vL n0 q1 w (nI (j + 1)) M' := by
  have c : (nI j).toNatClampNeg = j := nI_clamp (by omega)
  unfold vL
  rw [lpS, bX1_valueOf_124]
  refine eq_f hl (eq_f (nI_in hj (by decide)) (eq_e (v' := x) (by rw [c]; exact hv) (eq_f h6 (eq_b e ?_))))
  unfold fX1_valueOf_203
  rw [nI_1]
theorem xend {n0 q1 k j w : Nat} {M : Mem} (h9 : gI M 903 = nI k) (hk : 0 < k ∧ k ≤ 64) (hl : gI M (128 * q1 + 1) ≤ nI j) : vL n0 q1 (w + 1) (nI j) M = some (gA M 9 0, M) := by
  unfold vL
  rw [lpS, bX1_valueOf_124]
  exact eq_t hl (eq_f (by rw [h9]; exact nI_nle (by omega) (by omega)) (eq_f (by decide) rfl))
end
section
/-! ONE STEP OF A FORMULA'S VALUE BY THE REFERENCE -/
def YH (b wh e : Nat) (M : Mem) : Prop := gI M 13 = nI b ∧ b ≤ 1 ∧ wh ≤ 1 ∧ gA M 15 (2 * b + wh) = nI e ∧ e ≤ 1600
theorem YH.o {b wh e : Nat} {M : Mem} (h : YH b wh e M) : ¬ oob ((2 : Int32) * gI M 13 + nI wh) 4 := by
  obtain ⟨h1, h2, h3, _, _⟩ := h
  rw [h1, show (2 : Int32) = nI 2 from rfl, nI_mul, nI_add]
  exact nI_in (by omega) (by decide)
theorem YH.v {b wh e : Nat} {M : Mem} (h : YH b wh e M) : (1600 : Int32) * gI M 13 + gA M 15 ((2 : Int32) * gI M 13 + nI wh).toNatClampNeg = nI (1600 * b + e) := by
  obtain ⟨h1, h2, h3, h4, _⟩ := h
  rw [h1, show (2 : Int32) = nI 2 from rfl, nI_mul, nI_add, nI_clamp (by omega), h4, show (1600 : Int32) = nI 1600 from rfl, nI_mul, nI_add]
theorem yhd {n0 b wh e i w : Nat} {x2 : Int32} {M : Mem} {r : Option (Int64 × Mem)} (h : YH b wh e M) (hi : i < e) (c : Int32) (hc : gA M 16 (1600 * b + i) = c)
    (H : (if (30 : Int32) < c then
      if c = (43 : Int32) then
        if oob (x2 - (1 : Int32)) 500 then none else
        if oob (x2 - (1 : Int32)) 500 then none else
        fX12_reckons_221 n0 (rL n0 w) (nI wh) x2 (nI (1600 * b + i)) (sB M 34 (Int32.toNatClampNeg (x2 - (1 : Int32))) ((1 : Int64) - (gB M 34 (Int32.toNatClampNeg (x2 - (1 : Int32))))))
      else
        if c = (44 : Int32) then
          if oob ((x2 + (-2 : Int32)) - (1 : Int32)) 500 then none else
          if (lg_cmp (gB M 34 (Int32.toNatClampNeg ((x2 + (-2 : Int32)) - (1 : Int32)))) (1 : Int64)) = 0 then
            if oob (x2 + (-2 : Int32)) 500 then none else
            fX12_reckons_187 n0 (rL n0 w) (nI wh) (x2 + (-2 : Int32)) (nI (1600 * b + i)) ((x2 + (-2 : Int32)) - (1 : Int32)) (gB M 34 (Int32.toNatClampNeg (x2 + (-2 : Int32)))) M
          else
            if oob ((x2 + (-2 : Int32)) + (1 : Int32)) 500 then none else
            fX12_reckons_187 n0 (rL n0 w) (nI wh) (x2 + (-2 : Int32)) (nI (1600 * b + i)) ((x2 + (-2 : Int32)) - (1 : Int32)) (gB M 34 (Int32.toNatClampNeg ((x2 + (-2 : Int32)) + (1 : Int32)))) M
        else
          if oob ((x2 + (-1 : Int32)) - (1 : Int32)) 500 then none else
          if oob (x2 + (-1 : Int32)) 500 then none else
          (fX12_two n0 c (gB M 34 (Int32.toNatClampNeg ((x2 + (-1 : Int32)) - (1 : Int32)))) (gB M 34 (Int32.toNatClampNeg (x2 + (-1 : Int32)))) M).bind fun z217 =>
          if oob ((x2 + (-1 : Int32)) - (1 : Int32)) 500 then none else
          fX12_reckons_221 n0 (rL n0 w) (nI wh) (x2 + (-1 : Int32)) (nI (1600 * b + i)) (sB z217.2 34 (Int32.toNatClampNeg ((x2 + (-1 : Int32)) - (1 : Int32))) z217.1)
    else
      if c = 0 then
        if oob (nI (1600 * b + i)) 3200 then none else
        fX12_reckons_105 n0 (rL n0 w) (nI wh) x2 (nI (1600 * b + i)) x2 ((gA M 17 (Int32.toNatClampNeg (nI (1600 * b + i))))).toInt64 M
      else
        if c = (30 : Int32) then
          fX12_reckons_105 n0 (rL n0 w) (nI wh) x2 (nI (1600 * b + i)) x2 (1 : Int64) M
        else
          if oob c 10 then none else
          fX12_reckons_105 n0 (rL n0 w) (nI wh) x2 (nI (1600 * b + i)) x2 ((gA M 35 (Int32.toNatClampNeg c))).toInt64 M) = r) : rL n0 (w + 1) (nI wh) x2 (nI (1600 * b + i)) M = r := by
  have h2 := h.2.1
  have h5 := h.2.2.2.2
  have hE : ¬ (1600 : Int32) * gI M 13 + gA M 15 ((2 : Int32) * gI M 13 + nI wh).toNatClampNeg ≤ nI (1600 * b + i) := by rw [h.v]; exact nI_ge (by omega) (by omega)
  have c0 : (nI (1600 * b + i)).toNatClampNeg = 1600 * b + i := nI_clamp (by omega)
  unfold rL
  rw [lpS, bX12_reckons_25]
  refine eq_f h.o (eq_f hE (eq_f (nI_in (by omega) (by decide)) (eq_e (v' := c) (by rw [c0]; exact hc) ?_)))
  exact H
theorem y105 {n0 k b i w : Nat} {x1 : Int32} {v : Int64} {M : Mem} (hk : k < 500) : fX12_reckons_105 n0 (rL n0 w) x1 (nI k) (nI (1600 * b + i)) (nI k) v M = rL n0 w x1 (nI (k + 1)) (nI (1600 * b + (i + 1))) (sB M 34 k v) := by
  unfold fX12_reckons_105 fX12_reckons_221
  refine eq_f (nI_in hk (by decide)) (eq_n ?_)
  rw [nI_clamp (by omega), nI_1, nI_1]
  rfl
theorem ylit {n0 b wh e i w k : Nat} {M : Mem} (h : YH b wh e M) (hi : i < e) (hk : k < 500) (hc : gA M 16 (1600 * b + i) = 0) : rL n0 (w + 1) (nI wh) (nI k) (nI (1600 * b + i)) M = rL n0 w (nI wh) (nI (k + 1)) (nI (1600 * b + (i + 1))) (sB M 34 k (gA M 17 (1600 * b + i)).toInt64) := by
  have h2 := h.2.1
  have h5 := h.2.2.2.2
  refine yhd h hi 0 hc (eq_f (by decide) (eq_t rfl (eq_f (nI_in (by omega) (by decide)) ?_)))
  rw [nI_clamp (by omega)]
  exact y105 hk
theorem yone {n0 b wh e i w k : Nat} {M : Mem} (h : YH b wh e M) (hi : i < e) (hk : k < 500) (hc : gA M 16 (1600 * b + i) = 30) : rL n0 (w + 1) (nI wh) (nI k) (nI (1600 * b + i)) M = rL n0 w (nI wh) (nI (k + 1)) (nI (1600 * b + (i + 1))) (sB M 34 k 1) :=
  yhd h hi 30 hc (eq_f (by decide) (eq_f (by decide) (eq_t rfl (y105 hk))))
theorem yfact {n0 b wh e i w k s : Nat} {M : Mem} (h : YH b wh e M) (hi : i < e) (hk : k < 500) (hs : 1 ≤ s ∧ s ≤ 6) (hc : gA M 16 (1600 * b + i) = nI s) : rL n0 (w + 1) (nI wh) (nI k) (nI (1600 * b + i)) M = rL n0 w (nI wh) (nI (k + 1)) (nI (1600 * b + (i + 1))) (sB M 34 k (gA M 35 s).toInt64) := by
  have hs6 : s = 1 ∨ s = 2 ∨ s = 3 ∨ s = 4 ∨ s = 5 ∨ s = 6 := by omega
  have t1 : ¬ (30 : Int32) < nI s := by rcases hs6 with h | h | h | h | h | h <;> subst h <;> decide
  have t2 : ¬ nI s = 0 := by rcases hs6 with h | h | h | h | h | h <;> subst h <;> decide
  have t3 : ¬ nI s = 30 := by rcases hs6 with h | h | h | h | h | h <;> subst h <;> decide
  refine yhd h hi (nI s) hc (eq_f t1 (eq_f t2 (eq_f t3 (eq_f (nI_in (by omega) (by decide)) ?_))))
  rw [nI_clamp (by omega)]
  exact y105 hk
end
section
/-! ONE STEP OF A FORMULA'S VALUE BY THE REFERENCE: what joins -/
theorem nIm1 (k : Nat) : nI (k + 1) + (-1 : Int32) = nI k := by
  rw [← nI_1]
  grind
theorem nIm2 (k : Nat) : nI (k + 2) + (-2 : Int32) = nI k := by
  rw [show k + 2 = k + 1 + 1 from rfl, ← nI_1, ← nI_1]
  grind
theorem ynot {n0 b wh e i w k : Nat} {M : Mem} (h : YH b wh e M) (hi : i < e) (hk : k < 500) (hc : gA M 16 (1600 * b + i) = 43) : rL n0 (w + 1) (nI wh) (nI (k + 1)) (nI (1600 * b + i)) M = rL n0 w (nI wh) (nI (k + 1)) (nI (1600 * b + (i + 1))) (sB M 34 k (1 - gB M 34 k)) := by
  have o : ¬ oob (nI (k + 1) - 1) 500 := by rw [nIs]; exact nI_in hk (by decide)
  have c : (nI (k + 1) - 1).toNatClampNeg = k := by rw [nIs]; exact nI_clamp (by omega)
  refine yhd h hi 43 hc (eq_t (by decide) (eq_t rfl (eq_f o (eq_f o ?_))))
  unfold fX12_reckons_221
  rw [nI_1, c]
  rfl
theorem ytw {n0 b wh e i w k : Nat} {M : Mem} {c : Int32} {v : Int64} (h : YH b wh e M) (hi : i < e) (hk : k + 1 < 500) (hc : gA M 16 (1600 * b + i) = c) (h30 : (30 : Int32) < c) (h43 : ¬ c = 43) (h44 : ¬ c = 44) (ev : fX12_two n0 c (gB M 34 k) (gB M 34 (k + 1)) M = some (v, M)) : rL n0 (w + 1) (nI wh) (nI (k + 2)) (nI (1600 * b + i)) M = rL n0 w (nI wh) (nI (k + 1)) (nI (1600 * b + (i + 1))) (sB M 34 k v) := by
  have s1 : nI (k + 2) + (-1 : Int32) = nI (k + 1) := nIm1 (k + 1)
  have c1 : (nI (k + 1)).toNatClampNeg = k + 1 := nI_clamp (by omega)
  have c0 : (nI k).toNatClampNeg = k := nI_clamp (by omega)
  refine yhd h hi c hc (eq_t h30 (eq_f h43 (eq_f h44 ?_)))
  simp only [s1, nIs, c0, c1]
  refine eq_f (nI_in (by omega) (by decide)) (eq_f (nI_in (by omega) (by decide)) (eq_b ev (eq_f (nI_in (by omega) (by decide)) ?_)))
  unfold fX12_reckons_221
  rw [nI_1]
  rfl
theorem yif {n0 b wh e i w k : Nat} {M : Mem} {a : Int} (h : YH b wh e M) (hi : i < e) (hk : k + 2 < 500) (hc : gA M 16 (1600 * b + i) = 44) (ha : bR a) (ea : gB M 34 k = zL a) : rL n0 (w + 1) (nI wh) (nI (k + 3)) (nI (1600 * b + i)) M = rL n0 w (nI wh) (nI (k + 1)) (nI (1600 * b + (i + 1))) (sB M 34 k (if a = 1 then gB M 34 (k + 1) else gB M 34 (k + 2))) := by
  have s2 : nI (k + 3) + (-2 : Int32) = nI (k + 1) := nIm2 (k + 1)
  have c2 : (nI (k + 2)).toNatClampNeg = k + 2 := nI_clamp (by omega)
  have c1 : (nI (k + 1)).toNatClampNeg = k + 1 := nI_clamp (by omega)
  have c0 : (nI k).toNatClampNeg = k := nI_clamp (by omega)
  have r1 : lR 1 := by unfold lR; omega
  have cc := lgc_eq ha.m.l r1
  refine yhd h hi 44 hc (eq_t (by decide) (eq_f (by decide) (eq_t rfl ?_)))
  simp only [s2, nIs, nI_1, c0, c1, c2, ea]
  refine eq_f (nI_in (by omega) (by decide)) ?_
  rw [zl1]
  by_cases g : a = 1
  · rw [if_pos g]
    refine eq_t (cc.mpr g) (eq_f (nI_in (by omega) (by decide)) ?_)
    unfold fX12_reckons_187 fX12_reckons_221
    refine eq_f (nI_in (by omega) (by decide)) ?_
    rw [c0, nI_1]
    rfl
  · rw [if_neg g]
    refine eq_f (fun z => g (cc.mp z)) (eq_f (nI_in (by omega) (by decide)) ?_)
    unfold fX12_reckons_187 fX12_reckons_221
    refine eq_f (nI_in (by omega) (by decide)) ?_
    rw [c0, nI_1]
    rfl
theorem yend {n0 b wh e w : Nat} {x2 : Int32} {M : Mem} (h : YH b wh e M) : rL n0 (w + 1) (nI wh) x2 (nI (1600 * b + e)) M = some (gB M 34 0, M) := by
  have h2 := h.2.1
  have h5 := h.2.2.2.2
  unfold rL
  rw [lpS, bX12_reckons_25]
  exact eq_f h.o (eq_t (by rw [h.v]; exact nI_le (by omega) (by omega)) (eq_f (by decide) rfl))
/-- the class chooses one of two -/
theorem xif {n0 k : Nat} {a v1 v2 : Int} {M : Mem} (hk : k + 2 < 64) (h9 : gI M 903 = nI (k + 3)) (e0 : gA M 9 k = zI a) (e1 : gA M 9 (k + 1) = zI v1) (e2 : gA M 9 (k + 2) = zI v2) (ha : bR a) (m1 : mR v1) (m2 : mR v2) : fX1_join n0 (-14) M = some (sA (sI M 903 (nI (k + 1))) 9 k (zI (if a = 1 then v1 else v2))) := by
  have c0 : (nI k).toNatClampNeg = k := nI_clamp (by omega)
  have c1 : (nI (k + 1)).toNatClampNeg = k + 1 := nI_clamp (by omega)
  have c2 : (nI (k + 2)).toNatClampNeg = k + 2 := nI_clamp (by omega)
  have p2 : nI k + (2 : Int32) = nI (k + 2) := by rw [show (2 : Int32) = nI 2 from rfl, nI_add]
  have o0 : ¬ oob (nI k) 64 := nI_in (by omega) (by decide)
  have o1 : ¬ oob (nI k + 1) 64 := by rw [nI_1]; exact nI_in (by omega) (by decide)
  have o2 : ¬ oob (nI k + 2) 64 := by rw [p2]; exact nI_in (by omega) (by decide)
  have q1 : gI M 903 - ((3 : Int32) - 1) = nI (k + 1) := by
    rw [h9, ← nIm2 (k + 1)]
    grind
  unfold fX1_join fX1_join_11
  refine eq_t rfl (eq_t (by rw [h9]; exact nI_le (a := 3) (by omega) (by omega)) (eq_e (v' := sI M 903 (nI (k + 1))) (by rw [q1]) (eq_e (v' := nI k) (by rw [gI_at]; exact nIs k) (eq_f o0 (eq_e (v' := zI a) (by rw [c0]; exact e0) (eq_f o1 (eq_e (v' := zI v1) (by rw [nI_1, c1]; exact e1) ?_)))))))
  refine eq_f (by decide) (eq_f (by decide) (eq_f (by decide) (eq_f (by decide) (eq_f (by decide) (eq_t rfl ?_)))))
  by_cases g : a = 0
  · rw [if_neg (show ¬ a = 1 by omega)]
    refine eq_t ((zI_z ha.m).mpr g) (eq_f o2 ?_)
    exact xjz (by omega) (by rw [p2, c2, gA_sI, e2]; exact zIL m2) m2
  · rw [if_pos (show a = 1 from ha.resolve_left g)]
    exact eq_f (fun z => g ((zI_z ha.m).mp z)) (xjz (by omega) (zIL m1) m1)
end
section
/-! WHAT WAITS, ON BOTH SIDES -/
def Stk : List Bool → (Nat → Int32) → (Nat → Int64) → Prop
  | [], _, _ => True
  | t :: st, x, y => (∃ a, x st.length = zI a ∧ y st.length = zL a ∧ mR a ∧ (t = true → bR a)) ∧ Stk st x y
theorem Stk.cong : ∀ {st : List Bool} {x x' : Nat → Int32} {y y' : Nat → Int64}, Stk st x y → (∀ i, i < st.length → x' i = x i) → (∀ i, i < st.length → y' i = y i) → Stk st x' y'
  | [], _, _, _, _, _, _, _ => trivial
  | t :: st, x, x', y, y', h, h1, h2 => by
    obtain ⟨⟨a, a1, a2, a3, a4⟩, h⟩ := h
    have l : (t :: st).length = st.length + 1 := rfl
    exact ⟨⟨a, (h1 _ (by omega)).trans a1, (h2 _ (by omega)).trans a2, a3, a4⟩, Stk.cong h (fun i hi => h1 i (by omega)) (fun i hi => h2 i (by omega))⟩
/-- what the class may change while it reckons -/
def VX (M M' : Mem) : Prop := gR M' = gR M ∧ gL M' = gL M ∧ gB M' = gB M ∧ (∀ a, ¬ a = 9 → gA M' a = gA M a) ∧ ∀ k, ¬ k = 903 → gI M' k = gI M k
theorem VX.r {M : Mem} : VX M M := ⟨rfl, rfl, rfl, fun _ _ => rfl, fun _ _ => rfl⟩
theorem VX.tr {M M' M2 : Mem} (h : VX M M') (g : VX M' M2) : VX M M2 := ⟨g.1.trans h.1, g.2.1.trans h.2.1, g.2.2.1.trans h.2.2.1, fun a z => (g.2.2.2.1 a z).trans (h.2.2.2.1 a z), fun a z => (g.2.2.2.2 a z).trans (h.2.2.2.2 a z)⟩
theorem VX.i {M M' : Mem} {v : Int32} (h : VX M M') : VX M (sI M' 903 v) := ⟨h.1, h.2.1, h.2.2.1, h.2.2.2.1, fun k z => (gI_ne z).trans (h.2.2.2.2 k z)⟩
theorem VX.a {M M' : Mem} {i : Nat} {v : Int32} (h : VX M M') : VX M (sA M' 9 i v) := ⟨h.1, h.2.1, h.2.2.1, fun a z => (gA_sA_ne z).trans (h.2.2.2.1 a z), h.2.2.2.2⟩
/-- what the reference may change while it reckons -/
def VY (M M' : Mem) : Prop := gR M' = gR M ∧ gL M' = gL M ∧ gA M' = gA M ∧ gI M' = gI M ∧ ∀ a, ¬ a = 34 → gB M' a = gB M a
theorem VY.r {M : Mem} : VY M M := ⟨rfl, rfl, rfl, rfl, fun _ _ => rfl⟩
theorem VY.tr {M M' M2 : Mem} (h : VY M M') (g : VY M' M2) : VY M M2 := ⟨g.1.trans h.1, g.2.1.trans h.2.1, g.2.2.1.trans h.2.2.1, g.2.2.2.1.trans h.2.2.2.1, fun a z => (g.2.2.2.2 a z).trans (h.2.2.2.2 a z)⟩
theorem VY.b {M M' : Mem} {i : Nat} {v : Int64} (h : VY M M') : VY M (sB M' 34 i v) := ⟨h.1, h.2.1, h.2.2.1, h.2.2.2.1, fun a z => by
  funext j
  rw [gB_sB, if_neg z, h.2.2.2.2 a z]⟩
theorem Stk.put {t : Bool} {st : List Bool} {MX MY MX' MY' : Mem} {a : Int} (h : Stk st (gA MX 9) (gB MY 34)) (eX : gA MX' 9 = upd (gA MX 9) st.length (zI a)) (eY : gB MY' 34 = gB (sB MY 34 st.length (zL a)) 34) (m : mR a) (hb : t = true → bR a) : Stk (t :: st) (gA MX' 9) (gB MY' 34) := by
  have x1 : ∀ i, gA MX' 9 i = if i = st.length then zI a else gA MX 9 i := fun i => by rw [eX]; rfl
  have y1 : ∀ i, gB MY' 34 i = if i = st.length then zL a else gB MY 34 i := fun i => by rw [eY, gB_sB, if_pos rfl]
  exact ⟨⟨a, by rw [x1, if_pos rfl], by rw [y1, if_pos rfl], m, hb⟩, h.cong (fun i hi => by rw [x1, if_neg (by omega)]) (fun i hi => by rw [y1, if_neg (by omega)])⟩
theorem mif {P : Prop} [Decidable P] {x y : Int} (hx : mR x) (hy : mR y) : mR (if P then x else y) := by
  by_cases g : P
  · rw [if_pos g]; exact hx
  · rw [if_neg g]; exact hy
theorem opZ_m {c : Int32} {a b : Int} (ha : mR a) (hb : mR b) : mR (opZ c a b) :=
  mif (clip_m _) (mif (clip_m _) (mif (clip_m _) (mif (clip_m _) (mif (mif m0 (clip_m _)) (mif (mif hb ha) (mif (mif hb ha) (mif (mif m0 m1) (mif (mif m0 m1) (mif (mif m1 m0) (mif (mif m0 hb) (mif hb m1)))))))))))
def FcR (MX MY : Mem) : Prop := ∀ s, 1 ≤ s → s ≤ 6 → ∃ a, gA MX 8 (s - 1) = zI a ∧ gA MY 35 s = zI a ∧ mR a
/-- both sides before the code at i of the reference, the step at j of the class -/
def EvR (q1 b wh e len : Nat) (st : List Bool) (MX MY : Mem) : Prop := ¬ q1 = 8 ∧ ¬ q1 = 7 ∧ gI MX (128 * q1 + 1) = nI len ∧ len ≤ 1600 ∧ gI MX 903 = nI st.length ∧ st.length ≤ 60 ∧ Stk st (gA MX 9) (gB MY 34) ∧ YH b wh e MY ∧ FcR MX MY
theorem EvR.go {q1 b wh e len : Nat} {st st' : List Bool} {MX MY MX' MY' : Mem} (h : EvR q1 b wh e len st MX MY) (fx : VX MX MX') (fy : VY MY MY') (h9 : gI MX' 903 = nI st'.length) (hs : st'.length ≤ 60) (hS : Stk st' (gA MX' 9) (gB MY' 34)) : EvR q1 b wh e len st' MX' MY' := by
  obtain ⟨h1, h1', h2, h3, h4, h5, h6, h7, h8⟩ := h
  refine ⟨h1, h1', (fx.2.2.2.2 _ (by omega)).trans h2, h3, h9, hs, hS, ?_, fun s a1 a2 => ?_⟩
  · unfold YH at h7 ⊢
    rw [fy.2.2.2.1, fy.2.2.1]
    exact h7
  · rw [fx.2.2.2.1 8 (by decide), fy.2.2.1]
    exact h8 s a1 a2
end
section
/-! ONE CODE OF A FORMULA ON BOTH SIDES -/
def Ev1 (n0 q1 b wh e len : Nat) (st st' : List Bool) (i j n : Nat) (MX MY : Mem) : Prop := ∃ MX' MY', (∀ w, vL n0 q1 (w + n) (nI j) MX = vL n0 q1 w (nI (j + n)) MX') ∧ (∀ w, rL n0 (w + 1) (nI wh) (nI st.length) (nI (1600 * b + i)) MY = rL n0 w (nI wh) (nI st'.length) (nI (1600 * b + (i + 1))) MY') ∧ EvR q1 b wh e len st' MX' MY' ∧ VX MX MX' ∧ VY MY MY'
theorem evpush {n0 q1 b wh e len i j : Nat} {t : Bool} {st : List Bool} {MX MY : Mem} {a : Int} (h : EvR q1 b wh e len st MX MY) (hl : st.length < 60) (m : mR a) (hb : t = true → bR a) (hx : ∀ w, vL n0 q1 (w + 1) (nI j) MX = vL n0 q1 w (nI (j + 1)) (sI (sA MX 9 st.length (zI a)) 903 (nI (st.length + 1)))) (hy : ∀ w, rL n0 (w + 1) (nI wh) (nI st.length) (nI (1600 * b + i)) MY = rL n0 w (nI wh) (nI (st.length + 1)) (nI (1600 * b + (i + 1))) (sB MY 34 st.length (zL a))) : Ev1 n0 q1 b wh e len st (t :: st) i j 1 MX MY :=
  ⟨_, _, hx, hy, h.go VX.r.a.i VY.r.b gI_at (by show st.length + 1 ≤ 60; omega) (h.2.2.2.2.2.2.1.put gA_sA_at rfl m hb), VX.r.a.i, VY.r.b⟩
theorem evjoin {n0 q1 b wh e len i j : Nat} {t t1 t2 : Bool} {r : List Bool} {MX MY : Mem} {v : Int} (h : EvR q1 b wh e len (t1 :: t2 :: r) MX MY) (m : mR v) (hb : t = true → bR v) (hx : ∀ w, vL n0 q1 (w + 1) (nI j) MX = vL n0 q1 w (nI (j + 1)) (sA (sI MX 903 (nI (r.length + 1))) 9 r.length (zI v))) (hy : ∀ w, rL n0 (w + 1) (nI wh) (nI (r.length + 2)) (nI (1600 * b + i)) MY = rL n0 w (nI wh) (nI (r.length + 1)) (nI (1600 * b + (i + 1))) (sB MY 34 r.length (zL v))) : Ev1 n0 q1 b wh e len (t1 :: t2 :: r) (t :: r) i j 1 MX MY := by
  have l : (t1 :: t2 :: r).length = r.length + 2 := rfl
  have h6 := h.2.2.2.2.2.1
  exact ⟨_, _, hx, hy, h.go VX.r.i.a VY.r.b (by rw [gI_sA]; exact gI_at) (by show r.length + 1 ≤ 60; omega) (h.2.2.2.2.2.2.1.2.2.put gA_sA_at rfl m hb), VX.r.i.a, VY.r.b⟩
theorem evop {n0 q1 b wh e len i j : Nat} {t t1 t2 : Bool} {r : List Bool} {MX MY : Mem} {c x : Int32} (h : EvR q1 b wh e len (t1 :: t2 :: r) MX MY) (hj : j < len) (hi : i < e) (hX : gA MX (q1 + 1) j = x) (hY : gA MY 16 (1600 * b + i) = c) (h6 : ¬ (-6 : Int32) ≤ x) (h14 : ¬ x = -14) (h30 : (30 : Int32) < c) (h43 : ¬ c = 43) (h44 : ¬ c = 44)
    (xv : ∀ (u v : Int) (M : Mem), mR u → mR v → (t1 = true → bR v) → (t2 = true → bR u) → joinT n0 x (nI r.length) (zI u) (zI v) M = some (sA M 9 r.length (zI (opZ c u v))))
    (yv : ∀ (u v : Int) (M : Mem), mR u → mR v → (t1 = true → bR v) → (t2 = true → bR u) → fX12_two n0 c (zL u) (zL v) M = some (zL (opZ c u v), M))
    (hb : ∀ u v, (t1 = true → bR v) → (t2 = true → bR u) → t = true → bR (opZ c u v)) : Ev1 n0 q1 b wh e len (t1 :: t2 :: r) (t :: r) i j 1 MX MY := by
  have l : (t1 :: t2 :: r).length = r.length + 2 := rfl
  obtain ⟨q8, q7, n1, n2, h9, h60, ⟨⟨v, v1, v2, v3, v4⟩, ⟨u, u1, u2, u3, u4⟩, hS⟩, hH, hF⟩ := id h
  have l2 : (t2 :: r).length = r.length + 1 := rfl
  rw [l2] at v1 v2
  have hl : ¬ gI MX (128 * q1 + 1) ≤ nI j := by rw [n1]; exact nI_ge hj (by omega)
  refine evjoin h (opZ_m u3 v3) (hb u v v4 u4) (fun w => ?_) (fun w => ?_)
  · refine xop (by omega) hl hX h6 ?_
    rw [xjoin (k := r.length) (by omega) h9 h14, u1, v1]
    exact xv u v _ u3 v3 v4 u4
  · refine ytw hH hi (by omega) hY h30 h43 h44 ?_
    rw [u2, v2]
    exact yv u v _ u3 v3 v4 u4
end
section
/-! ONE CODE OF A FORMULA ON BOTH SIDES: numbers, facts, a TEST that holds, NOT, IF -/
theorem evlit {n0 q1 b wh e len i j : Nat} {st : List Bool} {MX MY : Mem} {c2 : Int32} (h : EvR q1 b wh e len st MX MY) (hl : st.length < 60) (h0 : 0 ≤ c2) (h9 : c2 ≤ 9999) (hj : j < len) (hi : i < e) (hX : gA MX (q1 + 1) j = c2) (hY : gA MY 16 (1600 * b + i) = 0) (hY2 : gA MY 17 (1600 * b + i) = c2) : Ev1 n0 q1 b wh e len st (false :: st) i j 1 MX MY := by
  obtain ⟨q8, q7, n1, n2, h93, h60, hS, hH, hF⟩ := id h
  have hle : ¬ gI MX (128 * q1 + 1) ≤ nI j := by rw [n1]; exact nI_ge hj (by omega)
  have a1 : (0 : Int) ≤ c2.toInt := Int32.le_iff_toInt_le.mp h0
  have a2 : c2.toInt ≤ (9999 : Int) := Int32.le_iff_toInt_le.mp h9
  have m : mR c2.toInt := by unfold mR; omega
  refine evpush (a := c2.toInt) h hl m (fun z => by cases z) (fun w => ?_) (fun w => ?_)
  · rw [zI_of]
    exact xlit (by omega) h93 (by omega) hle hX h0
  · rw [← zIL m, zI_of, ← hY2]
    exact ylit hH hi (by omega) hY
theorem evone {n0 q1 b wh e len i j : Nat} {st : List Bool} {MX MY : Mem} (h : EvR q1 b wh e len st MX MY) (hl : st.length < 60) (hj : j < len) (hi : i < e) (hX : gA MX (q1 + 1) j = 1) (hY : gA MY 16 (1600 * b + i) = 30) : Ev1 n0 q1 b wh e len st (true :: st) i j 1 MX MY := by
  obtain ⟨q8, q7, n1, n2, h93, h60, hS, hH, hF⟩ := id h
  have hle : ¬ gI MX (128 * q1 + 1) ≤ nI j := by rw [n1]; exact nI_ge hj (by omega)
  refine evpush (a := 1) h hl m1 (fun _ => Or.inr rfl) (fun w => ?_) (fun w => ?_)
  · rw [← zi1]
    exact xlit (by omega) h93 (by omega) hle hX (by decide)
  · rw [← zl1]
    exact yone hH hi (by omega) hY
theorem evfact {n0 q1 b wh e len i j s : Nat} {st : List Bool} {MX MY : Mem} (h : EvR q1 b wh e len st MX MY) (hl : st.length < 60) (hs : 1 ≤ s ∧ s ≤ 6) (hj : j < len) (hi : i < e) (hX : gA MX (q1 + 1) j = - nI s) (hY : gA MY 16 (1600 * b + i) = nI s) : Ev1 n0 q1 b wh e len st (false :: st) i j 1 MX MY := by
  obtain ⟨q8, q7, n1, n2, h93, h60, hS, hH, hF⟩ := id h
  have hle : ¬ gI MX (128 * q1 + 1) ≤ nI j := by rw [n1]; exact nI_ge hj (by omega)
  obtain ⟨a, a1, a2, m⟩ := hF s hs.1 hs.2
  refine evpush (a := a) h hl m (fun z => by cases z) (fun w => ?_) (fun w => ?_)
  · rw [← a1]
    exact xfact (by omega) h93 (by omega) hle hs hX
  · rw [← zIL m, ← a2]
    exact yfact hH hi (by omega) hs hY
theorem evif {n0 q1 b wh e len i j : Nat} {r : List Bool} {MX MY : Mem} (h : EvR q1 b wh e len (false :: false :: true :: r) MX MY) (hj : j < len) (hi : i < e) (hX : gA MX (q1 + 1) j = -14) (hY : gA MY 16 (1600 * b + i) = 44) : Ev1 n0 q1 b wh e len (false :: false :: true :: r) (false :: r) i j 1 MX MY := by
  have l : (false :: false :: true :: r).length = r.length + 3 := rfl
  obtain ⟨q8, q7, n1, n2, h93, h60, ⟨⟨v, v1, v2, v3, v4⟩, ⟨u, u1, u2, u3, u4⟩, ⟨a, a1, a2, a3, a4⟩, hS⟩, hH, hF⟩ := id h
  have l2 : (false :: true :: r).length = r.length + 2 := rfl
  have l1 : (true :: r).length = r.length + 1 := rfl
  rw [l2] at v1 v2
  rw [l1] at u1 u2
  have hle : ¬ gI MX (128 * q1 + 1) ≤ nI j := by rw [n1]; exact nI_ge hj (by omega)
  have ez : (if a = 1 then gB MY 34 (r.length + 1) else gB MY 34 (r.length + 2)) = zL (if a = 1 then u else v) := by
    by_cases g : a = 1
    · rw [if_pos g, if_pos g, u2]
    · rw [if_neg g, if_neg g, v2]
  refine ⟨sA (sI MX 903 (nI (r.length + 1))) 9 r.length (zI (if a = 1 then u else v)), sB MY 34 r.length (zL (if a = 1 then u else v)), fun w => ?_, fun w => ?_, h.go VX.r.i.a VY.r.b (by rw [gI_sA]; exact gI_at) (by show r.length + 1 ≤ 60; omega) (hS.put gA_sA_at rfl (mif u3 v3) (fun z => by cases z)), VX.r.i.a, VY.r.b⟩
  · exact xop (by omega) hle hX (by decide) (xif (by omega) h93 a1 u1 v1 (a4 rfl) u3 v3)
  · rw [← ez]
    exact yif hH hi (by omega) hY (a4 rfl) a2
end
section
/-! ONE CODE OF A FORMULA ON BOTH SIDES: NOT -/
theorem evnot {n0 q1 b wh e len i j : Nat} {r : List Bool} {MX MY : Mem} (h : EvR q1 b wh e len (true :: r) MX MY) (hr : r.length < 59) (hj : j + 1 < len) (hi : i < e) (hX : gA MX (q1 + 1) j = 0) (hX2 : gA MX (q1 + 1) (j + 1) = -17) (hY : gA MY 16 (1600 * b + i) = 43) : Ev1 n0 q1 b wh e len (true :: r) (true :: r) i j 2 MX MY := by
  have l : (true :: r).length = r.length + 1 := rfl
  obtain ⟨q8, q7, n1, n2, h93, h60, ⟨⟨a, a1, a2, a3, a4⟩, hS⟩, hH, hF⟩ := id h
  have a5 : bR a := a4 rfl
  have hl1 : ¬ gI MX (128 * q1 + 1) ≤ nI j := by rw [n1]; exact nI_ge (by omega) (by omega)
  have f1 : VX MX (sI (sA MX 9 (r.length + 1) 0) 903 (nI (r.length + 1 + 1))) := VX.r.a.i
  have hl2 : ¬ gI (sI (sA MX 9 (r.length + 1) 0) 903 (nI (r.length + 1 + 1))) (128 * q1 + 1) ≤ nI (j + 1) := by rw [f1.2.2.2.2 _ (by omega), n1]; exact nI_ge (by omega) (by omega)
  have b0 : gA (sI (sA MX 9 (r.length + 1) 0) 903 (nI (r.length + 1 + 1))) 9 r.length = zI a := by rw [gA_sI, gA_sA, if_pos rfl, if_neg (by omega)]; exact a1
  have b1 : gA (sI (sA MX 9 (r.length + 1) 0) 903 (nI (r.length + 1 + 1))) 9 (r.length + 1) = zI 0 := by rw [gA_sI, gA_sA, if_pos rfl, if_pos rfl]; exact zi0
  have ev : (1 : Int64) - gB MY 34 r.length = zL (opZ 40 a 0) := by
    rw [a2]
    rcases a5 with g | g <;> subst g <;> decide
  have hb : bR (opZ 40 a 0) := by
    rcases a5 with g | g <;> subst g
    · exact Or.inr rfl
    · exact Or.inl rfl
  have f2 : VX MX (sA (sI (sI (sA MX 9 (r.length + 1) 0) 903 (nI (r.length + 1 + 1))) 903 (nI (r.length + 1))) 9 r.length (zI (opZ 40 a 0))) := VX.r.a.i.i.a
  have hS2 : Stk r (gA (sI (sI (sA MX 9 (r.length + 1) 0) 903 (nI (r.length + 1 + 1))) 903 (nI (r.length + 1))) 9) (gB MY 34) := hS.cong (fun i hi => by rw [gA_sI, gA_sI, gA_sA, if_pos rfl, if_neg (by omega)]) (fun _ _ => rfl)
  refine ⟨sA (sI (sI (sA MX 9 (r.length + 1) 0) 903 (nI (r.length + 1 + 1))) 903 (nI (r.length + 1))) 9 r.length (zI (opZ 40 a 0)), sB MY 34 r.length (zL (opZ 40 a 0)), fun w => ?_, fun w => ?_, h.go f2 VY.r.b (by rw [gI_sA]; exact gI_at) h60 (hS2.put gA_sA_at rfl hb.m (fun _ => hb)), f2, VY.r.b⟩
  · refine Eq.trans (xlit (w := w + 1) (k := r.length + 1) (by omega) h93 (by omega) hl1 hX (by decide)) ?_
    refine xop (by omega) hl2 ((congrFun (f1.2.2.2.1 _ (by omega)) _).trans hX2) (by decide) ?_
    rw [xjoin (k := r.length) (by omega) gI_at (by decide), b0, b1]
    exact x40 (by omega) a3 m0
  · rw [← ev]
    exact ynot hH hi (by omega) hY
end
section
/-! EVERY JOINING CODE, ONE BY ONE -/
theorem bIf {P : Prop} [Decidable P] {x y : Int} (hx : bR x) (hy : bR y) : bR (if P then x else y) := by
  by_cases g : P
  · rw [if_pos g]; exact hx
  · rw [if_neg g]; exact hy
theorem b0 : bR 0 := Or.inl rfl
theorem b1 : bR 1 := Or.inr rfl
theorem ev31 {n0 q1 b wh e len i j : Nat} {r : List Bool} {MX MY : Mem} (h : EvR q1 b wh e len (false :: false :: r) MX MY) (hj : j < len) (hi : i < e) (hX : gA MX (q1 + 1) j = -7) (hY : gA MY 16 (1600 * b + i) = 31) : Ev1 n0 q1 b wh e len (false :: false :: r) (false :: r) i j 1 MX MY := by
  have l : (false :: false :: r).length = r.length + 2 := rfl
  have h6 := h.2.2.2.2.2.1
  exact evop h hj hi hX hY (by decide) (by decide) (by decide) (by decide) (by decide) (fun u v M g1 g2 _ _ => x31 (by omega) g1 g2) (fun u v M g1 g2 _ _ => y31 g1 g2) (fun u v _ _ z => by cases z)
theorem ev32 {n0 q1 b wh e len i j : Nat} {r : List Bool} {MX MY : Mem} (h : EvR q1 b wh e len (false :: false :: r) MX MY) (hj : j < len) (hi : i < e) (hX : gA MX (q1 + 1) j = -8) (hY : gA MY 16 (1600 * b + i) = 32) : Ev1 n0 q1 b wh e len (false :: false :: r) (false :: r) i j 1 MX MY := by
  have l : (false :: false :: r).length = r.length + 2 := rfl
  have h6 := h.2.2.2.2.2.1
  exact evop h hj hi hX hY (by decide) (by decide) (by decide) (by decide) (by decide) (fun u v M g1 g2 _ _ => x32 (by omega) g1 g2) (fun u v M g1 g2 _ _ => y32 g1 g2) (fun u v _ _ z => by cases z)
theorem ev33 {n0 q1 b wh e len i j : Nat} {r : List Bool} {MX MY : Mem} (h : EvR q1 b wh e len (false :: false :: r) MX MY) (hj : j < len) (hi : i < e) (hX : gA MX (q1 + 1) j = -9) (hY : gA MY 16 (1600 * b + i) = 33) : Ev1 n0 q1 b wh e len (false :: false :: r) (false :: r) i j 1 MX MY := by
  have l : (false :: false :: r).length = r.length + 2 := rfl
  have h6 := h.2.2.2.2.2.1
  exact evop h hj hi hX hY (by decide) (by decide) (by decide) (by decide) (by decide) (fun u v M g1 g2 _ _ => x33 (by omega) g1 g2) (fun u v M g1 g2 _ _ => y33 g1 g2) (fun u v _ _ z => by cases z)
theorem ev34 {n0 q1 b wh e len i j : Nat} {r : List Bool} {MX MY : Mem} (h : EvR q1 b wh e len (false :: false :: r) MX MY) (hj : j < len) (hi : i < e) (hX : gA MX (q1 + 1) j = -10) (hY : gA MY 16 (1600 * b + i) = 34) : Ev1 n0 q1 b wh e len (false :: false :: r) (false :: r) i j 1 MX MY := by
  have l : (false :: false :: r).length = r.length + 2 := rfl
  have h6 := h.2.2.2.2.2.1
  exact evop h hj hi hX hY (by decide) (by decide) (by decide) (by decide) (by decide) (fun u v M g1 g2 _ _ => x34 (by omega) g1 g2) (fun u v M g1 g2 _ _ => y34 g1 g2) (fun u v _ _ z => by cases z)
theorem ev35 {n0 q1 b wh e len i j : Nat} {r : List Bool} {MX MY : Mem} (h : EvR q1 b wh e len (false :: false :: r) MX MY) (hj : j < len) (hi : i < e) (hX : gA MX (q1 + 1) j = -11) (hY : gA MY 16 (1600 * b + i) = 35) : Ev1 n0 q1 b wh e len (false :: false :: r) (false :: r) i j 1 MX MY := by
  have l : (false :: false :: r).length = r.length + 2 := rfl
  have h6 := h.2.2.2.2.2.1
  exact evop h hj hi hX hY (by decide) (by decide) (by decide) (by decide) (by decide) (fun u v M g1 g2 _ _ => x35 (by omega) g1 g2) (fun u v M g1 g2 _ _ => y35 g1 g2) (fun u v _ _ z => by cases z)
theorem ev36 {n0 q1 b wh e len i j : Nat} {r : List Bool} {MX MY : Mem} (h : EvR q1 b wh e len (false :: false :: r) MX MY) (hj : j < len) (hi : i < e) (hX : gA MX (q1 + 1) j = -12) (hY : gA MY 16 (1600 * b + i) = 36) : Ev1 n0 q1 b wh e len (false :: false :: r) (false :: r) i j 1 MX MY := by
  have l : (false :: false :: r).length = r.length + 2 := rfl
  have h6 := h.2.2.2.2.2.1
  exact evop h hj hi hX hY (by decide) (by decide) (by decide) (by decide) (by decide) (fun u v M g1 g2 _ _ => x36 (by omega) g1 g2) (fun u v M g1 g2 _ _ => y36 g1 g2) (fun u v _ _ z => by cases z)
theorem ev37 {n0 q1 b wh e len i j : Nat} {r : List Bool} {MX MY : Mem} (h : EvR q1 b wh e len (false :: false :: r) MX MY) (hj : j < len) (hi : i < e) (hX : gA MX (q1 + 1) j = -13) (hY : gA MY 16 (1600 * b + i) = 37) : Ev1 n0 q1 b wh e len (false :: false :: r) (false :: r) i j 1 MX MY := by
  have l : (false :: false :: r).length = r.length + 2 := rfl
  have h6 := h.2.2.2.2.2.1
  exact evop h hj hi hX hY (by decide) (by decide) (by decide) (by decide) (by decide) (fun u v M g1 g2 _ _ => x37 (by omega) g1 g2) (fun u v M g1 g2 _ _ => y37 g1 g2) (fun u v _ _ z => by cases z)
theorem ev38 {n0 q1 b wh e len i j : Nat} {r : List Bool} {MX MY : Mem} (h : EvR q1 b wh e len (false :: false :: r) MX MY) (hj : j < len) (hi : i < e) (hX : gA MX (q1 + 1) j = -15) (hY : gA MY 16 (1600 * b + i) = 38) : Ev1 n0 q1 b wh e len (false :: false :: r) (true :: r) i j 1 MX MY := by
  have l : (false :: false :: r).length = r.length + 2 := rfl
  have h6 := h.2.2.2.2.2.1
  exact evop h hj hi hX hY (by decide) (by decide) (by decide) (by decide) (by decide) (fun u v M g1 g2 _ _ => x38 (by omega) g1 g2) (fun u v M g1 g2 _ _ => y38 g1 g2) (fun u v _ _ _ => (show bR (if v ≤ u then 0 else 1) from bIf b0 b1))
theorem ev39 {n0 q1 b wh e len i j : Nat} {r : List Bool} {MX MY : Mem} (h : EvR q1 b wh e len (false :: false :: r) MX MY) (hj : j < len) (hi : i < e) (hX : gA MX (q1 + 1) j = -16) (hY : gA MY 16 (1600 * b + i) = 39) : Ev1 n0 q1 b wh e len (false :: false :: r) (true :: r) i j 1 MX MY := by
  have l : (false :: false :: r).length = r.length + 2 := rfl
  have h6 := h.2.2.2.2.2.1
  exact evop h hj hi hX hY (by decide) (by decide) (by decide) (by decide) (by decide) (fun u v M g1 g2 _ _ => x39 (by omega) g1 g2) (fun u v M g1 g2 _ _ => y39 g1 g2) (fun u v _ _ _ => (show bR (if u ≤ v then 0 else 1) from bIf b0 b1))
theorem ev40 {n0 q1 b wh e len i j : Nat} {r : List Bool} {MX MY : Mem} (h : EvR q1 b wh e len (false :: false :: r) MX MY) (hj : j < len) (hi : i < e) (hX : gA MX (q1 + 1) j = -17) (hY : gA MY 16 (1600 * b + i) = 40) : Ev1 n0 q1 b wh e len (false :: false :: r) (true :: r) i j 1 MX MY := by
  have l : (false :: false :: r).length = r.length + 2 := rfl
  have h6 := h.2.2.2.2.2.1
  exact evop h hj hi hX hY (by decide) (by decide) (by decide) (by decide) (by decide) (fun u v M g1 g2 _ _ => x40 (by omega) g1 g2) (fun u v M g1 g2 _ _ => y40 g1 g2) (fun u v _ _ _ => (show bR (if u = v then 1 else 0) from bIf b1 b0))
theorem ev41 {n0 q1 b wh e len i j : Nat} {r : List Bool} {MX MY : Mem} (h : EvR q1 b wh e len (true :: true :: r) MX MY) (hj : j < len) (hi : i < e) (hX : gA MX (q1 + 1) j = -18) (hY : gA MY 16 (1600 * b + i) = 41) : Ev1 n0 q1 b wh e len (true :: true :: r) (true :: r) i j 1 MX MY := by
  have l : (true :: true :: r).length = r.length + 2 := rfl
  have h6 := h.2.2.2.2.2.1
  exact evop h hj hi hX hY (by decide) (by decide) (by decide) (by decide) (by decide) (fun u v M _ _ g1 g2 => x41 (by omega) (g2 rfl) (g1 rfl)) (fun u v M _ _ g1 g2 => y41 (g2 rfl) (g1 rfl)) (fun u v g1 g2 _ => (show bR (if u = 0 then 0 else v) from bIf b0 (g1 rfl)))
theorem ev42 {n0 q1 b wh e len i j : Nat} {r : List Bool} {MX MY : Mem} (h : EvR q1 b wh e len (true :: true :: r) MX MY) (hj : j < len) (hi : i < e) (hX : gA MX (q1 + 1) j = -19) (hY : gA MY 16 (1600 * b + i) = 42) : Ev1 n0 q1 b wh e len (true :: true :: r) (true :: r) i j 1 MX MY := by
  have l : (true :: true :: r).length = r.length + 2 := rfl
  have h6 := h.2.2.2.2.2.1
  exact evop h hj hi hX hY (by decide) (by decide) (by decide) (by decide) (by decide) (fun u v M _ _ g1 g2 => x42 (by omega) (g2 rfl) (g1 rfl)) (fun u v M _ _ g1 g2 => y42 (g2 rfl) (g1 rfl)) (fun u v g1 g2 _ => (show bR (if u = 0 then v else 1) from bIf (g1 rfl) b1))
end
section
/-! ANY CODE, AND A WHOLE FORMULA, ON BOTH SIDES -/
theorem ev1 {n0 q1 b wh e len i j : Nat} {st st' : List Bool} {MX MY : Mem} {c1 c2 : Int32} (h : EvR q1 b wh e len st MX MY) (ht : ty1 (c1, c2) st = some st') (hj : j + (ex1 (c1, c2)).length ≤ len) (hi : i < e) (hX : ∀ t x, (ex1 (c1, c2))[t]? = some x → gA MX (q1 + 1) (j + t) = x) (hY : gA MY 16 (1600 * b + i) = c1) (hY2 : gA MY 17 (1600 * b + i) = c2) : Ev1 n0 q1 b wh e len st st' i j (ex1 (c1, c2)).length MX MY := by
  unfold ty1 at ht
  dsimp only at ht
  by_cases g0 : c1 = 0
  · subst g0
    rw [if_pos rfl] at ht
    have hl : (ex1 (0, c2)).length = 1 := rfl
    by_cases g : st.length < 60 ∧ 0 ≤ c2 ∧ c2 ≤ 9999
    · rw [if_pos g] at ht
      cases ht
      exact evlit h g.1 g.2.1 g.2.2 (by omega) hi (hX 0 c2 rfl) hY hY2
    · rw [if_neg g] at ht
      cases ht
  rw [if_neg g0] at ht
  by_cases g1 : c1 = 1 ∨ c1 = 2 ∨ c1 = 3 ∨ c1 = 4 ∨ c1 = 5 ∨ c1 = 6
  · rw [if_pos g1] at ht
    by_cases g : st.length < 60
    · rw [if_pos g] at ht
      cases ht
      rcases g1 with z | z | z | z | z | z <;> subst z
      · have hl : (ex1 (1, c2)).length = 1 := rfl
        exact evfact (s := 1) h g (by omega) (by omega) hi (hX 0 (-1) rfl) hY
      · have hl : (ex1 (2, c2)).length = 1 := rfl
        exact evfact (s := 2) h g (by omega) (by omega) hi (hX 0 (-2) rfl) hY
      · have hl : (ex1 (3, c2)).length = 1 := rfl
        exact evfact (s := 3) h g (by omega) (by omega) hi (hX 0 (-3) rfl) hY
      · have hl : (ex1 (4, c2)).length = 1 := rfl
        exact evfact (s := 4) h g (by omega) (by omega) hi (hX 0 (-4) rfl) hY
      · have hl : (ex1 (5, c2)).length = 1 := rfl
        exact evfact (s := 5) h g (by omega) (by omega) hi (hX 0 (-5) rfl) hY
      · have hl : (ex1 (6, c2)).length = 1 := rfl
        exact evfact (s := 6) h g (by omega) (by omega) hi (hX 0 (-6) rfl) hY
    · rw [if_neg g] at ht
      cases ht
  rw [if_neg g1] at ht
  by_cases g2 : c1 = 30
  · subst g2
    rw [if_pos rfl] at ht
    have hl : (ex1 (30, c2)).length = 1 := rfl
    by_cases g : st.length < 60
    · rw [if_pos g] at ht
      cases ht
      exact evone h g (by omega) hi (hX 0 1 rfl) hY
    · rw [if_neg g] at ht
      cases ht
  rw [if_neg g2] at ht
  by_cases g3 : c1 = 31 ∨ c1 = 32 ∨ c1 = 33 ∨ c1 = 34 ∨ c1 = 35 ∨ c1 = 36 ∨ c1 = 37
  · rw [if_pos g3] at ht
    rcases st with _ | ⟨_ | _, _ | ⟨_ | _, r⟩⟩ <;> cases ht
    rcases g3 with z | z | z | z | z | z | z <;> subst z
    · have hl : (ex1 (31, c2)).length = 1 := rfl
      exact ev31 h (by omega) hi (hX 0 (-7) rfl) hY
    · have hl : (ex1 (32, c2)).length = 1 := rfl
      exact ev32 h (by omega) hi (hX 0 (-8) rfl) hY
    · have hl : (ex1 (33, c2)).length = 1 := rfl
      exact ev33 h (by omega) hi (hX 0 (-9) rfl) hY
    · have hl : (ex1 (34, c2)).length = 1 := rfl
      exact ev34 h (by omega) hi (hX 0 (-10) rfl) hY
    · have hl : (ex1 (35, c2)).length = 1 := rfl
      exact ev35 h (by omega) hi (hX 0 (-11) rfl) hY
    · have hl : (ex1 (36, c2)).length = 1 := rfl
      exact ev36 h (by omega) hi (hX 0 (-12) rfl) hY
    · have hl : (ex1 (37, c2)).length = 1 := rfl
      exact ev37 h (by omega) hi (hX 0 (-13) rfl) hY
  rw [if_neg g3] at ht
  by_cases g4 : c1 = 38 ∨ c1 = 39 ∨ c1 = 40
  · rw [if_pos g4] at ht
    rcases st with _ | ⟨_ | _, _ | ⟨_ | _, r⟩⟩ <;> cases ht
    rcases g4 with z | z | z <;> subst z
    · have hl : (ex1 (38, c2)).length = 1 := rfl
      exact ev38 h (by omega) hi (hX 0 (-15) rfl) hY
    · have hl : (ex1 (39, c2)).length = 1 := rfl
      exact ev39 h (by omega) hi (hX 0 (-16) rfl) hY
    · have hl : (ex1 (40, c2)).length = 1 := rfl
      exact ev40 h (by omega) hi (hX 0 (-17) rfl) hY
  rw [if_neg g4] at ht
  by_cases g5 : c1 = 41 ∨ c1 = 42
  · rw [if_pos g5] at ht
    rcases st with _ | ⟨_ | _, _ | ⟨_ | _, r⟩⟩ <;> cases ht
    rcases g5 with z | z <;> subst z
    · have hl : (ex1 (41, c2)).length = 1 := rfl
      exact ev41 h (by omega) hi (hX 0 (-18) rfl) hY
    · have hl : (ex1 (42, c2)).length = 1 := rfl
      exact ev42 h (by omega) hi (hX 0 (-19) rfl) hY
  rw [if_neg g5] at ht
  by_cases g6 : c1 = 43
  · subst g6
    rw [if_pos rfl] at ht
    have hl : (ex1 (43, c2)).length = 2 := rfl
    rcases st with _ | ⟨_ | _, r⟩
    · cases ht
    · cases ht
    · dsimp only at ht
      by_cases g : r.length < 59
      · rw [if_pos g] at ht
        cases ht
        exact evnot h g (by omega) hi (hX 0 0 rfl) (hX 1 (-17) rfl) hY
      · rw [if_neg g] at ht
        cases ht
  rw [if_neg g6] at ht
  by_cases g7 : c1 = 44
  · subst g7
    rw [if_pos rfl] at ht
    have hl : (ex1 (44, c2)).length = 1 := rfl
    rcases st with _ | ⟨_ | _, _ | ⟨_ | _, _ | ⟨_ | _, r⟩⟩⟩ <;> cases ht
    exact evif h (by omega) hi (hX 0 (-14) rfl) hY
  rw [if_neg g7] at ht
  cases ht
end
section
/-! A WHOLE FORMULA ON BOTH SIDES -/
theorem evL {n0 q1 b wh e len : Nat} : ∀ (δ : List (Int32 × Int32)) (st st' : List Bool) (i j : Nat) (MX MY : Mem), EvR q1 b wh e len st MX MY → tyL δ st = some st' → j + (exL δ).length = len → i + δ.length = e → (∀ t x, (exL δ)[t]? = some x → gA MX (q1 + 1) (j + t) = x) → (∀ (t : Nat) (c : Int32 × Int32), δ[t]? = some c → gA MY 16 (1600 * b + (i + t)) = c.1 ∧ gA MY 17 (1600 * b + (i + t)) = c.2) →
    ∃ MX' MY', (∀ w, vL n0 q1 (w + (exL δ).length) (nI j) MX = vL n0 q1 w (nI len) MX') ∧ (∀ w, rL n0 (w + δ.length) (nI wh) (nI st.length) (nI (1600 * b + i)) MY = rL n0 w (nI wh) (nI st'.length) (nI (1600 * b + e)) MY') ∧ EvR q1 b wh e len st' MX' MY' ∧ VX MX MX' ∧ VY MY MY'
  | [], st, st', i, j, MX, MY, h, ht, hj, hi, _, _ => by
    have e1 : (exL []).length = 0 := rfl
    have e2 : ([] : List (Int32 × Int32)).length = 0 := rfl
    have ht2 : some st = some st' := ht
    cases ht2
    exact ⟨MX, MY, fun w => by rw [show j = len by omega]; rfl, fun w => by rw [show i = e by omega]; rfl, h, VX.r, VY.r⟩
  | (c1, c2) :: δ, st, st', i, j, MX, MY, h, ht, hj, hi, hX, hY => by
    have ee : exL ((c1, c2) :: δ) = ex1 (c1, c2) ++ exL δ := rfl
    have el : ((c1, c2) :: δ).length = δ.length + 1 := rfl
    have ht2 : (ty1 (c1, c2) st).bind (tyL δ) = some st' := ht
    obtain ⟨st1, k1, k2⟩ := Option.bind_eq_some_iff.mp ht2
    rw [ee, List.length_append] at hj
    have y0 := hY 0 (c1, c2) rfl
    obtain ⟨M1, N1, a1, a2, a3, a4, a5⟩ := ev1 (n0 := n0) (j := j) (i := i) h k1 (by omega) (by omega) (fun t x hx => hX t x (by rw [ee]; exact (List.getElem?_append_left (List.getElem?_eq_some_iff.mp hx).1).trans hx)) y0.1 y0.2
    have q8 := h.1
    obtain ⟨M2, N2, d1, d2, d3, d4, d5⟩ := evL (n0 := n0) δ st1 st' (i + 1) (j + (ex1 (c1, c2)).length) M1 N1 a3 k2 (by omega) (by omega) (fun t x hx => by
      rw [a4.2.2.2.1 _ (by omega), Nat.add_assoc]
      exact hX _ x (by rw [ee, List.getElem?_append_right (by omega), Nat.add_sub_cancel_left]; exact hx)) (fun t c hc => by
      rw [a5.2.2.1, Nat.add_assoc i 1 t, Nat.add_comm 1 t]
      exact hY (t + 1) c hc)
    refine ⟨M2, N2, fun w => ?_, fun w => ?_, d3, a4.tr d4, a5.tr d5⟩
    · rw [ee, List.length_append, Nat.add_comm (ex1 (c1, c2)).length, ← Nat.add_assoc, a1]
      exact d1 w
    · rw [el, ← Nat.add_assoc, a2]
      exact d2 w
end
section
/-! AN HOUR OUT OF A VALUE, ON BOTH SIDES -/
def hr (a : Int) : Int := if 0 ≤ a then (if a ≤ 23 then a else 23) else 0
theorem hr_r (a : Int) : 0 ≤ hr a ∧ hr a ≤ 23 := by
  unfold hr
  by_cases g : 0 ≤ a
  · rw [if_pos g]
    by_cases g2 : a ≤ 23
    · rw [if_pos g2]; omega
    · rw [if_neg g2]; omega
  · rw [if_neg g]; omega
theorem zl23 : (23 : Int64) = zL 23 := by decide
theorem zi23 : (23 : Int32) = zI 23 := by decide
theorem yhour {n0 : Nat} {a : Int} {M : Mem} (ha : mR a) : fX12_hour_29 n0 (zL a) M = some (zI (hr a), M) := by
  have c1 := lgc_ge ha.l m0.l
  have c2 := lgc_le ha.l (show lR 23 by unfold lR; omega)
  unfold fX12_hour_29 hr
  rw [zl0, zl23]
  by_cases g : 0 ≤ a
  · rw [if_pos g]
    refine eq_t (c1.mpr g) ?_
    by_cases g2 : a ≤ 23
    · rw [if_pos g2]
      refine eq_t (c2.mpr g2) ?_
      rw [zL_int ha.i.1 ha.i.2]
    · rw [if_neg g2]
      refine eq_f (fun z => g2 (c2.mp z)) ?_
      rw [zi23]
  · rw [if_neg g]
    refine eq_f (fun z => g (c1.mp z)) ?_
    rw [zi0]
theorem xhour {n0 : Nat} {a : Int} {M : Mem} (ha : mR a) : fX1_hourNow_57 n0 (zI a) M = some (zI (hr a), M) := by
  have c1 : zI a < zI 23 ↔ a < 23 := zI_lt ha.i.1 ha.i.2 (by omega) (by omega)
  have c2 : zI 0 < zI a ↔ 0 < a := zI_lt (by omega) (by omega) ha.i.1 ha.i.2
  have c3 : zI 0 < zI 23 := (zI_lt (by omega) (by omega) (by omega) (by omega)).mpr (by omega)
  have e : imax 0 (imin 23 (zI a)) = zI (hr a) := by
    unfold imax imin hr
    rw [zi0, zi23]
    by_cases g : a < 23
    · rw [if_pos (c1.mpr g)]
      by_cases g2 : 0 < a
      · rw [if_pos (c2.mpr g2), if_pos (by omega), if_pos (by omega)]
      · rw [if_neg (fun z => g2 (c2.mp z))]
        by_cases g3 : 0 ≤ a
        · rw [if_pos g3, if_pos (by omega), show a = 0 by omega]
        · rw [if_neg g3]
    · rw [if_neg (fun z => g (c1.mp z)), if_pos c3, if_pos (by omega)]
      by_cases g3 : a ≤ 23
      · rw [if_pos g3, show a = 23 by omega]
      · rw [if_neg g3]
  unfold fX1_hourNow_57
  rw [e]
end
section
/-! THE FACTS LAID BY THE CLASS -/
def xLay (w h c m e l : Int32) (M : Mem) : Mem := sI (sA (sA (sA (sA (sA (sA M 8 0 w) 8 1 h) 8 2 c) 8 3 m) 8 4 e) 8 5 l) 903 0
theorem xlayT {n0 q1 q t : Nat} {M : Mem} (hq : gR M 896 = q) (q8 : ¬ q + 3 = 8) (ht : t < 6) (h8 : gI M 898 = nI t) : fX1_valueOf_19 n0 q1 0 M = vL n0 q1 n0 (nI 0) (xLay (gA M (q + 2) t) (gI M 899) (gI M 897) (gI M 900) 0 (gA M (q + 3) t) M) := by
  have c : (nI t).toNatClampNeg = t := nI_clamp (by omega)
  have o : ¬ oob (gI M 898) 6 := by rw [h8]; exact nI_in ht (by decide)
  unfold fX1_valueOf_19 fX1_valueOf_45 fX1_valueOf_90 fX1_valueOf_116
  refine eq_t rfl (eq_f o (eq_f (by decide) (eq_n (eq_f (by decide) (eq_n (eq_f (by decide) (eq_n (eq_f (by decide) (eq_n (eq_t rfl (eq_f (by decide) (eq_n (eq_t rfl (eq_f o (eq_f (by decide) (eq_n (eq_n ?_)))))))))))))))))
  unfold xLay
  rw [h8, hq, c]
  simp only [gI_sA, h8, c]
  rw [show ∀ N : Mem, gR (sA (sA (sA (sA (sA N 8 (Int32.toNatClampNeg 0) (gA M (q + 2) t)) 8 (Int32.toNatClampNeg 1) (gI M 899)) 8 (Int32.toNatClampNeg 2) (gI M 897)) 8 (Int32.toNatClampNeg 3) (gI M 900)) 8 (Int32.toNatClampNeg 4) 0) 896 = gR N 896 from fun _ => rfl, hq]
  rw [gA_sA_ne q8, gA_sA_ne q8, gA_sA_ne q8, gA_sA_ne q8, gA_sA_ne q8]
  rfl
theorem xlayN {n0 q1 : Nat} {M : Mem} : fX1_valueOf_19 n0 q1 1 M = vL n0 q1 n0 (nI 0) (xLay 0 (gI M 899) (gI M 897) (gI M 900) 1 0 M) := by
  unfold fX1_valueOf_19 fX1_valueOf_45 fX1_valueOf_90 fX1_valueOf_116
  refine eq_f (by decide) (eq_f (by decide) (eq_n (eq_f (by decide) (eq_n (eq_f (by decide) (eq_n (eq_f (by decide) (eq_n (eq_f (by decide) (eq_f (by decide) (eq_n (eq_f (by decide) (eq_f (by decide) (eq_n (eq_n ?_)))))))))))))))
  rfl
theorem xvalT {n0 q1 q t nt : Nat} {M : Mem} (hq : gR M 896 = q) (q8 : ¬ q + 3 = 8) (hn : gI M (128 * q + 1) = nI nt) (hnt : nt ≤ 6) (ht : t < nt) (h8 : gI M 898 = nI t) : fX1_valueOf n0 q1 M = vL n0 q1 n0 (nI 0) (xLay (gA M (q + 2) t) (gI M 899) (gI M 897) (gI M 900) 0 (gA M (q + 3) t) M) := by
  have e : fX9_isThing n0 (gR M 896) (gI M 898) M = some (1, M) := by
    unfold fX9_isThing
    rw [hq, h8, hn]
    exact eq_f (fun z => absurd (show oob (nI t) 6 from Or.inl z) (nI_in (by omega) (by decide))) (eq_f (nI_ge ht (by omega)) rfl)
  unfold fX1_valueOf
  exact eq_b e (eq_f (show ¬ (1 : Int32) = 0 by decide) (xlayT hq q8 (by omega) h8))
theorem xvalN {n0 q1 : Nat} {M : Mem} (h8 : gI M 898 = -1) : fX1_valueOf n0 q1 M = vL n0 q1 n0 (nI 0) (xLay 0 (gI M 899) (gI M 897) (gI M 900) 1 0 M) := by
  have e : fX9_isThing n0 (gR M 896) (gI M 898) M = some (0, M) := by
    unfold fX9_isThing
    rw [h8]
    exact eq_t (by decide) rfl
  unfold fX1_valueOf
  exact eq_b e (eq_t rfl xlayN)
end
section
/-! THE FACTS LAID BY THE REFERENCE; A FORMULA'S VALUE ON BOTH SIDES -/
theorem oF {k n : Nat} (h : k < n) (hn : n < 2 ^ 31) : oob (nI k) n = False := eq_false (nI_in h hn)
theorem nz (k : Nat) : nI k = zI k := (Int32.ofInt_eq_ofNat (n := k)).symm
def yLay (w h c m e l : Int32) (M : Mem) : Mem := sA (sA (sA (sA (sA (sA M 35 1 w) 35 2 h) 35 3 c) 35 4 m) 35 5 e) 35 6 l
theorem yIx (v c : Nat) : (5 : Int32) * nI v + nI c = nI (5 * v + c) := by
  rw [show (5 : Int32) = nI 5 from rfl, nI_mul, nI_add]
theorem y6Ix (b t : Nat) : (6 : Int32) * nI b + nI t = nI (6 * b + t) := by
  rw [show (6 : Int32) = nI 6 from rfl, nI_mul, nI_add]
theorem y2Ix (b t : Nat) : (2 : Int32) * nI b + nI t = nI (2 * b + t) := by
  rw [show (2 : Int32) = nI 2 from rfl, nI_mul, nI_add]
theorem ylayT {n0 v c t b : Nat} {M : Mem} (hv : v < 22) (hc : c < 5) (hb : b ≤ 1) (h13 : gI M 13 = nI b) (ht : t < 6) (h29 : gA M 29 (5 * v + c) = nI t) : fX12_lays n0 (nI v) (nI c) M = some (yLay (gA M 3 (6 * b + t)) (gA M 30 (5 * v + c)) (nI c) (gA M 28 v) 0 (gA M 4 (6 * b + t)) M) := by
  have o1 : ¬ oob (nI (5 * v + c)) 110 := nI_in (by omega) (by decide)
  have o2 : ¬ oob (nI (6 * b + t)) 12 := nI_in (by omega) (by decide)
  have o3 : ¬ oob (nI v) 22 := nI_in (by omega) (by decide)
  have c1 : (nI (5 * v + c)).toNatClampNeg = 5 * v + c := nI_clamp (by omega)
  have c2 : (nI (6 * b + t)).toNatClampNeg = 6 * b + t := nI_clamp (by omega)
  have c3 : (nI v).toNatClampNeg = v := nI_clamp (by omega)
  have hm : ¬ nI t = -1 := nI_m1 (by omega)
  unfold fX12_lays fX12_lays_39 fX12_lays_90 fX12_lays_120
  simp only [yIx, c1, h29, h13, y6Ix, c2, c3, gI_sA]
  refine eq_f o1 (eq_n (eq_f hm (eq_f (by rw [y6Ix]; exact o2) (eq_f (by decide) (eq_n (eq_f o1 (eq_f (by decide) (eq_n (eq_f (by decide) (eq_n (eq_f o3 (eq_f (by decide) (eq_n (eq_f hm (eq_f (by decide) (eq_n (eq_f hm (eq_f ?_ (eq_f (by decide) ?_)))))))))))))))))))
  · simp only [gI_sA, h13, y6Ix]; exact o2
  · unfold yLay
    simp only [gI_sA, h13, y6Ix, c2]
    rw [gA_sA_ne (by decide), gA_sA_ne (by decide), gA_sA_ne (by decide), gA_sA_ne (by decide), gA_sA_ne (by decide), gA_sA_ne (by decide), gA_sA_ne (by decide), gA_sA_ne (by decide), gA_sA_ne (by decide)]
    rfl
theorem ylayN {n0 v c : Nat} {M : Mem} (hv : v < 22) (hc : c < 5) (h29 : gA M 29 (5 * v + c) = -1) : fX12_lays n0 (nI v) (nI c) M = some (yLay 0 (gA M 30 (5 * v + c)) (nI c) (gA M 28 v) 1 0 M) := by
  have o1 : ¬ oob (nI (5 * v + c)) 110 := nI_in (by omega) (by decide)
  have o3 : ¬ oob (nI v) 22 := nI_in (by omega) (by decide)
  have c1 : (nI (5 * v + c)).toNatClampNeg = 5 * v + c := nI_clamp (by omega)
  have c3 : (nI v).toNatClampNeg = v := nI_clamp (by omega)
  unfold fX12_lays fX12_lays_39 fX12_lays_90 fX12_lays_120
  simp only [yIx, c1, h29, c3, gI_sA]
  refine eq_f o1 (eq_n (eq_t rfl (eq_f (by decide) (eq_n (eq_f o1 (eq_f (by decide) (eq_n (eq_f (by decide) (eq_n (eq_f o3 (eq_f (by decide) (eq_n (eq_t rfl (eq_f (by decide) (eq_n (eq_t rfl (eq_f (by decide) ?_)))))))))))))))))
  unfold yLay
  rw [gA_sA_ne (by decide), gA_sA_ne (by decide), gA_sA_ne (by decide), gA_sA_ne (by decide)]
  rfl
/-- the facts laid on both sides, and a formula that is told -/
theorem valP {n0 q b C wh : Nat} {MX MY : Mem} (f : Nat → Nat) (hn : 1700 ≤ n0) (hq : q = 31 ∨ q = 47) (hb : b ≤ 1) (hwh : wh ≤ 1)
    (hF : ∃ c0 δ, 0 < δ.length ∧ c0 + δ.length ≤ C ∧ xlist MX (q + 12 + 2 * wh) (exL δ) ∧ gA MY 14 (2 * b + wh) = nI c0 ∧ gA MY 15 (2 * b + wh) = nI (c0 + δ.length) ∧ ylist MY b c0 δ ∧ tyL δ [] = some [decide (wh = 1)] ∧ (exL δ).length ≤ 1600) (hC : C ≤ 1600)
    (h13 : gI MY 13 = nI b) (hX : ∀ s, s < 6 → gA MX 8 s = nI (f s)) (hY : ∀ s, s < 6 → gA MY 35 (s + 1) = nI (f s)) (hf : ∀ s, s < 6 → f s ≤ 1000000) (h9 : gI MX 903 = 0) :
    ∃ a MX' MY', vL n0 (q + 12 + 2 * wh) n0 (nI 0) MX = some (zI a, MX') ∧ fX12_reckons n0 (nI wh) MY = some (zL a, MY') ∧ mR a ∧ (wh = 1 → bR a) ∧ VX MX MX' ∧ VY MY MY' := by
  obtain ⟨c0, δ, d1, d2, ⟨dx1, dx2⟩, d3, d4, d5, d6, d7⟩ := hF
  have hE : EvR (q + 12 + 2 * wh) b wh (c0 + δ.length) (exL δ).length [] MX MY := by
    refine ⟨by omega, by omega, dx1, d7, h9, by decide, trivial, ⟨h13, hb, hwh, d4, by omega⟩, fun s s1 s2 => ⟨f (s - 1), ?_, ?_, ?_⟩⟩
    · rw [hX _ (by omega), nz]
    · have := hY (s - 1) (by omega)
      rw [show s - 1 + 1 = s by omega] at this
      rw [this, nz]
    · have := hf (s - 1) (by omega)
      unfold mR
      omega
  obtain ⟨MX', MY', e1, e2, ⟨_, _, g1, _, g2, _, ⟨⟨a, a1, a2, a3, a4⟩, _⟩, hH, _⟩, v1, v2⟩ := evL (n0 := n0) δ [] [decide (wh = 1)] c0 0 MX MY hE d6 (by omega) rfl (fun t x hx => by
    obtain ⟨ht, rfl⟩ := List.getElem?_eq_some_iff.mp hx
    rw [Nat.zero_add]
    exact dx2 t ht) (fun t c hc => by
    obtain ⟨ht, rfl⟩ := List.getElem?_eq_some_iff.mp hc
    exact d5 t ht)
  refine ⟨a, MX', MY', ?_, ?_, a3, fun h => a4 (by rw [h]; rfl), v1, v2⟩
  · have k1 := e1 (n0 - (exL δ).length)
    rw [show n0 - (exL δ).length + (exL δ).length = n0 by omega] at k1
    rw [k1, show n0 - (exL δ).length = n0 - (exL δ).length - 1 + 1 by omega, xend (k := 1) g2 (by decide) (by rw [g1]; exact Int32.le_refl _)]
    exact congrArg (fun z => some (z, MX')) a1
  · have k1 := e2 (n0 - δ.length)
    rw [show n0 - δ.length + δ.length = n0 by omega] at k1
    unfold fX12_reckons
    have o1 : ¬ oob ((2 : Int32) * gI MY 13 + nI wh) 4 := by rw [h13, y2Ix]; exact nI_in (by omega) (by decide)
    refine eq_f o1 (eq_e (v' := nI (1600 * b + c0)) ?_ ?_)
    · rw [h13, y2Ix, nI_clamp (by omega), d3, show (1600 : Int32) = nI 1600 from rfl, nI_mul, nI_add]
    · refine Eq.trans k1 ?_
      rw [show n0 - δ.length = n0 - δ.length - 1 + 1 by omega, yend hH]
      exact congrArg (fun z => some (z, MY')) a2
end
section
/-! THE HOUR OF A PALM, AND WHETHER ITS THING IS GONE, ON BOTH SIDES -/
def tOk (nt : Nat) (t : Int32) : Prop := t = -1 ∨ ∃ k, k < nt ∧ t = nI k
/-- what the class may change while it looks for an hour -/
def VX2 (M M' : Mem) : Prop := gR M' = gR M ∧ gL M' = gL M ∧ gB M' = gB M ∧ (∀ a, ¬ (a = 8 ∨ a = 9) → gA M' a = gA M a) ∧ ∀ k, ¬ k = 903 → gI M' k = gI M k
/-- what the reference may change while it looks for an hour -/
def VY2 (M M' : Mem) : Prop := gR M' = gR M ∧ gL M' = gL M ∧ gI M' = gI M ∧ (∀ a, ¬ a = 35 → gA M' a = gA M a) ∧ ∀ a, ¬ a = 34 → gB M' a = gB M a
theorem VX2.r {M : Mem} : VX2 M M := ⟨rfl, rfl, rfl, fun _ _ => rfl, fun _ _ => rfl⟩
theorem VX2.tr {M M' M2 : Mem} (h : VX2 M M') (g : VX2 M' M2) : VX2 M M2 := ⟨g.1.trans h.1, g.2.1.trans h.2.1, g.2.2.1.trans h.2.2.1, fun a z => (g.2.2.2.1 a z).trans (h.2.2.2.1 a z), fun a z => (g.2.2.2.2 a z).trans (h.2.2.2.2 a z)⟩
theorem VX.two {M M' : Mem} (h : VX M M') : VX2 M M' := ⟨h.1, h.2.1, h.2.2.1, fun a z => h.2.2.2.1 a (fun e => z (Or.inr e)), h.2.2.2.2⟩
theorem VY2.r {M : Mem} : VY2 M M := ⟨rfl, rfl, rfl, fun _ _ => rfl, fun _ _ => rfl⟩
theorem VY2.tr {M M' M2 : Mem} (h : VY2 M M') (g : VY2 M' M2) : VY2 M M2 := ⟨g.1.trans h.1, g.2.1.trans h.2.1, g.2.2.1.trans h.2.2.1, fun a z => (g.2.2.2.1 a z).trans (h.2.2.2.1 a z), fun a z => (g.2.2.2.2 a z).trans (h.2.2.2.2 a z)⟩
theorem VY.two {M M' : Mem} (h : VY M M') : VY2 M M' := ⟨h.1, h.2.1, h.2.2.2.1, fun a _ => by rw [h.2.2.1], h.2.2.2.2⟩
theorem xLay_f {w h c m e l : Int32} {M : Mem} : VX2 M (xLay w h c m e l M) := by
  unfold xLay
  refine ⟨rfl, rfl, rfl, fun a z => ?_, fun k z => gI_ne z⟩
  have z8 : a ≠ 8 := fun g => z (Or.inl g)
  show gA (sA (sA (sA (sA (sA (sA M 8 0 w) 8 1 h) 8 2 c) 8 3 m) 8 4 e) 8 5 l) a = gA M a
  rw [gA_sA_ne z8, gA_sA_ne z8, gA_sA_ne z8, gA_sA_ne z8, gA_sA_ne z8, gA_sA_ne z8]
theorem yLay_f {w h c m e l : Int32} {M : Mem} : VY2 M (yLay w h c m e l M) := by
  unfold yLay
  refine ⟨rfl, rfl, rfl, fun a z => ?_, fun a _ => rfl⟩
  rw [gA_sA_ne z, gA_sA_ne z, gA_sA_ne z, gA_sA_ne z, gA_sA_ne z, gA_sA_ne z]
def fac (w h c m e l : Nat) : Nat → Nat
  | 0 => w
  | 1 => h
  | 2 => c
  | 3 => m
  | 4 => e
  | _ => l
theorem xLay_v {w h c m e l : Nat} {M : Mem} : ∀ s, s < 6 → gA (xLay (nI w) (nI h) (nI c) (nI m) (nI e) (nI l) M) 8 s = nI (fac w h c m e l s)
  | 0, _ => rfl
  | 1, _ => rfl
  | 2, _ => rfl
  | 3, _ => rfl
  | 4, _ => rfl
  | 5, _ => rfl
  | n + 6, h => by omega
theorem yLay_v {w h c m e l : Nat} {M : Mem} : ∀ s, s < 6 → gA (yLay (nI w) (nI h) (nI c) (nI m) (nI e) (nI l) M) 35 (s + 1) = nI (fac w h c m e l s)
  | 0, _ => rfl
  | 1, _ => rfl
  | 2, _ => rfl
  | 3, _ => rfl
  | 4, _ => rfl
  | 5, _ => rfl
  | n + 6, h => by omega
theorem exL_pos {δ : List (Int32 × Int32)} (h : 0 < δ.length) : 0 < (exL δ).length := by
  match δ, h with
  | c :: δ, _ =>
    have e : exL (c :: δ) = ex1 c ++ exL δ := rfl
    rw [e, List.length_append]
    have : 0 < (ex1 c).length := by
      unfold ex1
      by_cases g : c.1 = 0
      · rw [if_pos g]; exact Nat.zero_lt_one
      · rw [if_neg g]
        by_cases g2 : c.1 = 43
        · rw [if_pos g2]; decide
        · rw [if_neg g2]; exact Nat.zero_lt_one
    omega
theorem hrk (a : Int) : zI (hr a) = nI (hr a).toNat := by rw [nz, Int.toNat_of_nonneg (hr_r a).1]
theorem hrk_le (a : Int) : (hr a).toNat ≤ 23 := by have := hr_r a; omega
/-- both sides look at one palm: corner c, thing t, held h, minute m; layer v of the reference -/
def PmX (q c : Nat) (t : Int32) (h m : Nat) (M : Mem) : Prop := gR M 896 = q ∧ gI M 897 = nI c ∧ gI M 898 = t ∧ gI M 899 = nI h ∧ gI M 900 = nI m
def PmY (b v c : Nat) (t : Int32) (h m : Nat) (M : Mem) : Prop := gI M 13 = nI b ∧ v < 22 ∧ gA M 28 v = nI m ∧ gA M 29 (5 * v + c) = t ∧ gA M 30 (5 * v + c) = nI h
def PmO (nt c : Nat) (t : Int32) (h m : Nat) : Prop := c < 5 ∧ tOk nt t ∧ h ≤ 999 ∧ m ≤ 20000
theorem laidP {n0 q b nt nc nd nr C v c h m : Nat} {t : Int32} {MX MY : Mem} (hT : TownR q b nt nc nd nr C MX MY) (hq : q = 31 ∨ q = 47) (hb : b ≤ 1) (hX : PmX q c t h m MX) (hY : PmY b v c t h m MY) (hO : PmO nt c t h m) :
    ∃ w l e, w ≤ 99 ∧ l ≤ 99 ∧ e ≤ 1 ∧ (∀ q1, fX1_valueOf n0 q1 MX = vL n0 q1 n0 (nI 0) (xLay (nI w) (nI h) (nI c) (nI m) (nI e) (nI l) MX)) ∧ fX12_lays n0 (nI v) (nI c) MY = some (yLay (nI w) (nI h) (nI c) (nI m) (nI e) (nI l) MY) ∧ (t = -1 → w = 0) ∧ (∀ k, k < nt → t = nI k → gA MX (q + 2) k = nI w ∧ gA MX (q + 3) k = nI l) := by
  obtain ⟨x0, x1, x2, x3, x4⟩ := hX
  obtain ⟨y0, hv, y1, y2, y3⟩ := hY
  obtain ⟨hc, ht, hh, hm⟩ := hO
  have hnt : nt ≤ 6 := hT.1.1.2.2.1
  rcases ht with ht | ⟨k, hk, ht⟩
  · refine ⟨0, 0, 1, by omega, by omega, by omega, fun q1 => ?_, ?_, fun _ => rfl, fun k hk e => absurd (e.symm.trans ht) (nI_m1 (by omega))⟩
    · rw [xvalN (x2.trans ht), x3, x1, x4]; rfl
    · rw [ylayN hv hc (y2.trans ht), y3, y1]; rfl
  · obtain ⟨t1, ⟨w, w1, w2⟩, t2, ⟨l, _, l1, l2⟩⟩ := hT.2.1 k hk
    refine ⟨w, l, 0, w1, l1, by omega, fun q1 => ?_, ?_, fun e => absurd (ht.symm.trans e) (nI_m1 (by omega)), fun k' hk' e => ?_⟩
    · rw [xvalT x0 (by omega) hT.1.1.1 hnt hk (x2.trans ht), x3, x1, x4, w2, l2]; rfl
    · rw [ylayT hv hc hb y0 (by omega) (y2.trans ht), y3, y1, show gA MY 3 (6 * b + k) = nI w from t1.symm.trans w2, show gA MY 4 (6 * b + k) = nI l from t2.symm.trans l2]; rfl
    · have : k' = k := (nI_eq (by omega) (by omega)).mp (e.symm.trans ht)
      rw [this]
      exact ⟨w2, l2⟩
theorem xTold {n0 q1 len : Nat} {M : Mem} (h : gI M (128 * q1 + 1) = nI len) (h1 : 0 < len) (h2 : len ≤ 1600) : fX0_isTold n0 q1 M = some (1, M) := by
  unfold fX0_isTold
  rw [h]
  exact eq_f (nI_ge (a := 0) h1 (by omega)) rfl
theorem xUntold {n0 q1 : Nat} {M : Mem} (h : gI M (128 * q1 + 1) = 0) : fX0_isTold n0 q1 M = some (0, M) := by
  unfold fX0_isTold
  rw [h]
  exact eq_t (by decide) rfl
theorem yTold {n0 b wh : Nat} {M : Mem} (h13 : gI M 13 = nI b) (hb : b ≤ 1) (hw : wh ≤ 1) {c0 : Nat} (hc : c0 ≤ 1600) (h : gA M 14 (2 * b + wh) = nI c0) : fX12_isTold n0 (nI wh) M = some (1, M) := by
  unfold fX12_isTold
  rw [h13]
  simp only [y2Ix]
  refine eq_f (nI_in (by omega) (by decide)) (eq_f ?_ rfl)
  rw [nI_clamp (by omega), h]
  exact nI_m1 (by omega)
theorem yUntold {n0 b wh : Nat} {M : Mem} (h13 : gI M 13 = nI b) (hb : b ≤ 1) (hw : wh ≤ 1) (h : gA M 14 (2 * b + wh) = -1) : fX12_isTold n0 (nI wh) M = some (0, M) := by
  unfold fX12_isTold
  rw [h13]
  simp only [y2Ix]
  refine eq_f (nI_in (by omega) (by decide)) (eq_t ?_ rfl)
  rw [nI_clamp (by omega), h]
theorem hourP {n0 q b nt nc nd nr C v c h m : Nat} {t : Int32} {MX MY : Mem} (hn : 1700 ≤ n0) (hT : TownR q b nt nc nd nr C MX MY) (hq : q = 31 ∨ q = 47) (hb : b ≤ 1) (hX : PmX q c t h m MX) (hY : PmY b v c t h m MY) (hO : PmO nt c t h m) :
    ∃ k MX' MY', k ≤ 23 ∧ fX1_hourNow n0 MX = some (nI k, MX') ∧ fX12_hour n0 (nI v) (nI c) MY = some (nI k, MY') ∧ VX2 MX MX' ∧ VY2 MY MY' := by
  obtain ⟨w, l, e, w1, l1, e1, hx, hy, hw0, hwk⟩ := laidP (n0 := n0) hT hq hb hX hY hO
  obtain ⟨x0, x1, x2, x3, x4⟩ := hX
  obtain ⟨y0, hv, y1, y2, y3⟩ := hY
  obtain ⟨hc, ht, hh, hm⟩ := hO
  have hnt : nt ≤ 6 := hT.1.1.2.2.1
  have fY := yLay_f (w := nI w) (h := nI h) (c := nI c) (m := nI m) (e := nI e) (l := nI l) (M := MY)
  have fX := xLay_f (w := nI w) (h := nI h) (c := nI c) (m := nI m) (e := nI e) (l := nI l) (M := MX)
  have y13 : gI (yLay (nI w) (nI h) (nI c) (nI m) (nI e) (nI l) MY) 13 = nI b := (congrFun fY.2.2.1 13).trans y0
  rcases hT.2.2.2.2.2.2.1 with ⟨f1, f2⟩ | ⟨c0, δ, d1, d2, ⟨dx1, dx2⟩, d3, d4, d5, d6, d7⟩
  · refine ⟨(hr w).toNat, MX, _, hrk_le _, ?_, ?_, VX2.r, fY⟩
    · unfold fX1_hourNow
      rw [x0]
      refine eq_b (xUntold f1) (eq_t rfl ?_)
      rw [← hrk]
      have ew : mR (w : Int) := by unfold mR; omega
      rcases ht with ht | ⟨k, hk, ht⟩
      · have e0 : fX9_isThing n0 (gR MX 896) (gI MX 898) MX = some (0, MX) := by
          unfold fX9_isThing
          rw [x2.trans ht]
          exact eq_t (by decide) rfl
        refine eq_b e0 (eq_t rfl ?_)
        rw [hw0 ht]
        exact xhour (a := 0) (by unfold mR; omega)
      · have e0 : fX9_isThing n0 (gR MX 896) (gI MX 898) MX = some (1, MX) := by
          unfold fX9_isThing
          rw [x0, x2.trans ht, hT.1.1.1]
          exact eq_f (fun z => absurd (show oob (nI k) 6 from Or.inl z) (nI_in (by omega) (by decide))) (eq_f (nI_ge hk (by omega)) rfl)
        refine eq_b e0 (eq_f (show ¬ (1 : Int32) = 0 by decide) (eq_f ?_ (eq_n ?_)))
        · show ¬ oob (gI MX 898) 6
          rw [x2.trans ht]
          exact nI_in (by omega) (by decide)
        · show fX1_hourNow_57 n0 (gA MX (gR MX 896 + 2) (gI MX 898).toNatClampNeg) MX = _
          rw [x0, x2.trans ht, nI_clamp (by omega), (hwk k hk ht).1, nz]
          exact xhour ew
    · unfold fX12_hour
      refine eq_b hy (eq_b (yUntold (wh := 0) y13 hb (by decide) (by rw [fY.2.2.2.1 14 (by decide)]; exact f2)) (eq_t rfl (eq_f (by decide) ?_)))
      show fX12_hour_29 n0 (nI w).toInt64 _ = _
      have ew : mR (w : Int) := by unfold mR; omega
      rw [nz w, zI_long ew.i.1 ew.i.2, ← hrk]
      exact yhour ew
  · have hC := hT.2.2.2.2.2.2.2.2
    obtain ⟨a, MX', MY', v1, v2, v3, _, v5, v6⟩ := valP (n0 := n0) (q := q) (b := b) (C := C) (wh := 0) (MX := xLay (nI w) (nI h) (nI c) (nI m) (nI e) (nI l) MX) (MY := yLay (nI w) (nI h) (nI c) (nI m) (nI e) (nI l) MY) (fac w h c m e l) hn hq hb (by decide)
      ⟨c0, δ, d1, d2, ⟨(fX.2.2.2.2 _ (by omega)).trans dx1, fun i hi => by rw [fX.2.2.2.1 _ (by omega)]; exact dx2 i hi⟩, by rw [fY.2.2.2.1 14 (by decide)]; exact d3, by rw [fY.2.2.2.1 15 (by decide)]; exact d4, fun i hi => by rw [fY.2.2.2.1 16 (by decide), fY.2.2.2.1 17 (by decide)]; exact d5 i hi, d6, d7⟩ hC y13 xLay_v yLay_v (fun s hs => by match s, hs with | 0, _ => show w ≤ _; omega | 1, _ => show h ≤ _; omega | 2, _ => show c ≤ _; omega | 3, _ => show m ≤ _; omega | 4, _ => show e ≤ _; omega | 5, _ => show l ≤ _; omega | n + 6, z => omega) rfl
    refine ⟨(hr a).toNat, MX', MY', hrk_le _, ?_, ?_, fX.tr v5.two, fY.tr v6.two⟩
    · unfold fX1_hourNow
      rw [x0]
      refine eq_b (xTold dx1 (exL_pos d1) d7) (eq_f (show ¬ (1 : Int32) = 0 by decide) ?_)
      show Option.bind (fX1_valueOf n0 (gR MX 896 + 12) MX) _ = _
      rw [x0]
      refine eq_b ((hx _).trans v1) ?_
      rw [← hrk]
      exact xhour v3
    · unfold fX12_hour
      refine eq_b hy (eq_b (yTold (wh := 0) (c0 := c0) y13 hb (by decide) (by omega) (by rw [fY.2.2.2.1 14 (by decide)]; exact d3)) (eq_f (show ¬ (1 : Int32) = 0 by decide) (eq_b v2 ?_)))
      rw [← hrk]
      exact yhour v3
/-- whether the thing that the class looks at is gone -/
abbrev xTst (n0 : Nat) (M : Mem) : Option Mem :=
  (fX0_isTold n0 ((gR M 896) + 14) M).bind fun z54 =>
    if z54.1 = 0 then
      if oob (gI z54.2 898) 6 then none else
      if (gI z54.2 899) < (gA z54.2 ((gR z54.2 896) + 3) (Int32.toNatClampNeg (gI z54.2 898))) then
        fX1_goOn_106 n0 (0 : Int32) z54.2
      else
        fX1_goOn_106 n0 (1 : Int32) z54.2
    else
      (fX1_valueOf n0 ((gR z54.2 896) + 14) z54.2).bind fun z68 =>
      if z68.1 = 0 then
        fX1_goOn_106 n0 (0 : Int32) z68.2
      else
        fX1_goOn_106 n0 (1 : Int32) z68.2
theorem goneP {n0 q b nt nc nd nr C v c h m : Nat} {t : Int32} {MX MY : Mem} (hn : 1700 ≤ n0) (hT : TownR q b nt nc nd nr C MX MY) (hq : q = 31 ∨ q = 47) (hb : b ≤ 1) (hX : PmX q c t h m MX) (hY : PmY b v c t h m MY) (hO : PmO nt c t h m) (hne : ¬ t = -1) :
    ∃ (g : Bool) (MX' MY' : Mem), xTst n0 MX = fX1_goOn_106 n0 (bI (g = true)) MX' ∧ fX12_isGone n0 (nI v) (nI c) MY = some (bI (g = true), MY') ∧ VX2 MX MX' ∧ VY2 MY MY' := by
  obtain ⟨w, l, e, w1, l1, e1, hx, hy, hw0, hwk⟩ := laidP (n0 := n0) hT hq hb hX hY hO
  obtain ⟨x0, x1, x2, x3, x4⟩ := hX
  obtain ⟨y0, hv, y1, y2, y3⟩ := hY
  obtain ⟨hc, ht, hh, hm⟩ := hO
  have hnt : nt ≤ 6 := hT.1.1.2.2.1
  obtain ⟨k, hk, ht⟩ : ∃ k, k < nt ∧ t = nI k := by
    rcases ht with ht | ht
    · exact absurd ht hne
    · exact ht
  have fY := yLay_f (w := nI w) (h := nI h) (c := nI c) (m := nI m) (e := nI e) (l := nI l) (M := MY)
  have fX := xLay_f (w := nI w) (h := nI h) (c := nI c) (m := nI m) (e := nI e) (l := nI l) (M := MX)
  have y13 : gI (yLay (nI w) (nI h) (nI c) (nI m) (nI e) (nI l) MY) 13 = nI b := (congrFun fY.2.2.1 13).trans y0
  have o1 : ¬ oob ((5 : Int32) * nI v + nI c) 110 := by rw [yIx]; exact nI_in (by omega) (by decide)
  have n1 : ¬ gA (yLay (nI w) (nI h) (nI c) (nI m) (nI e) (nI l) MY) 29 ((5 : Int32) * nI v + nI c).toNatClampNeg = -1 := by
    rw [fY.2.2.2.1 29 (by decide), yIx, nI_clamp (by omega), y2]
    exact hne
  rcases hT.2.2.2.2.2.2.2.1 with ⟨f1, f2⟩ | ⟨c0, δ, d1, d2, ⟨dx1, dx2⟩, d3, d4, d5, d6, d7⟩
  · refine ⟨decide (¬ h < l), MX, _, ?_, ?_, VX2.r, fY⟩
    · unfold xTst
      rw [x0]
      refine eq_b (xUntold f1) (eq_t rfl (eq_f ?_ ?_))
      · show ¬ oob (gI MX 898) 6
        rw [x2.trans ht]
        exact nI_in (by omega) (by decide)
      · show (if gI MX 899 < gA MX (gR MX 896 + 3) (gI MX 898).toNatClampNeg then _ else _) = _
        have q1 : gA MX (gR MX 896 + 3) (gI MX 898).toNatClampNeg = nI l := by rw [x0, x2.trans ht, nI_clamp (by omega)]; exact (hwk k hk ht).2
        rw [q1, x3]
        by_cases g : h < l
        · rw [bI_f (by simp [g])]
          exact eq_t (nI_lt g (by omega)) rfl
        · rw [bI_t (by simp [g])]
          exact eq_f (fun z => g ((nI_ltI (by omega) (by omega)).mp z)) rfl
    · unfold fX12_isGone
      refine eq_b hy (eq_f o1 (eq_f n1 (eq_b (yUntold (wh := 1) y13 hb (by decide) (by rw [fY.2.2.2.1 14 (by decide)]; exact f2)) (eq_t rfl (eq_f (by decide) (eq_f (by decide) ?_))))))
      show (if nI h < nI l then _ else _) = _
      by_cases g : h < l
      · rw [bI_f (by simp [g])]
        exact eq_t (nI_lt g (by omega)) rfl
      · rw [bI_t (by simp [g])]
        exact eq_f (fun z => g ((nI_ltI (by omega) (by omega)).mp z)) rfl
  · have hC := hT.2.2.2.2.2.2.2.2
    obtain ⟨a, MX', MY', v1, v2, v3, v4, v5, v6⟩ := valP (n0 := n0) (q := q) (b := b) (C := C) (wh := 1) (MX := xLay (nI w) (nI h) (nI c) (nI m) (nI e) (nI l) MX) (MY := yLay (nI w) (nI h) (nI c) (nI m) (nI e) (nI l) MY) (fac w h c m e l) hn hq hb (by decide)
      ⟨c0, δ, d1, d2, ⟨(fX.2.2.2.2 _ (by omega)).trans dx1, fun i hi => by rw [fX.2.2.2.1 _ (by omega)]; exact dx2 i hi⟩, by rw [fY.2.2.2.1 14 (by decide)]; exact d3, by rw [fY.2.2.2.1 15 (by decide)]; exact d4, fun i hi => by rw [fY.2.2.2.1 16 (by decide), fY.2.2.2.1 17 (by decide)]; exact d5 i hi, d6, d7⟩ hC y13 xLay_v yLay_v (fun s hs => by match s, hs with | 0, _ => show w ≤ _; omega | 1, _ => show h ≤ _; omega | 2, _ => show c ≤ _; omega | 3, _ => show m ≤ _; omega | 4, _ => show e ≤ _; omega | 5, _ => show l ≤ _; omega | n + 6, z => omega) rfl
    have ba := v4 rfl
    refine ⟨decide (a = 1), MX', MY', ?_, ?_, fX.tr v5.two, fY.tr v6.two⟩
    · unfold xTst
      rw [x0]
      refine eq_b (xTold dx1 (exL_pos d1) d7) (eq_f (show ¬ (1 : Int32) = 0 by decide) ?_)
      show Option.bind (fX1_valueOf n0 (gR MX 896 + 14) MX) _ = _
      rw [x0]
      refine eq_b ((hx _).trans v1) ?_
      rcases ba with rfl | rfl
      · rw [bI_f (by decide)]
        exact eq_t rfl rfl
      · rw [bI_t (by decide)]
        exact eq_f (show ¬ zI 1 = 0 by decide) rfl
    · unfold fX12_isGone
      refine eq_b hy (eq_f o1 (eq_f n1 (eq_b (yTold (wh := 1) (c0 := c0) y13 hb (by decide) (by omega) (by rw [fY.2.2.2.1 14 (by decide)]; exact d3)) (eq_f (show ¬ (1 : Int32) = 0 by decide) (eq_b v2 ?_)))))
      rcases ba with rfl | rfl
      · rw [bI_f (by decide)]
        exact eq_f (show ¬ lg_cmp (zL 0) 1 = 0 by decide) rfl
      · rw [bI_t (by decide)]
        exact eq_t (show lg_cmp (zL 1) 1 = 0 by decide) rfl
end
section
/-! HOURS AND ENDS AS FUNCTIONS OF CORNER, THING, HELD, MINUTE -/
def xTw (q : Nat) (M M' : Mem) : Prop := (∀ j, 128 * q ≤ j → j < 128 * q + 2048 → gI M' j = gI M j) ∧ ∀ a, q ≤ a → a < q + 16 → gA M' a = gA M a
def yTw (b : Nat) (M M' : Mem) : Prop := (∀ a i, a ≤ 17 → regA b a i → gA M' a i = gA M a i) ∧ ∀ a i, regB b a i → gB M' a i = gB M a i
theorem xTw.r {q : Nat} {M : Mem} : xTw q M M := ⟨fun _ _ _ => rfl, fun _ _ _ => rfl⟩
theorem yTw.r {b : Nat} {M : Mem} : yTw b M M := ⟨fun _ _ _ _ => rfl, fun _ _ _ => rfl⟩
theorem xTw.tr {q : Nat} {M M' M2 : Mem} (h : xTw q M M') (g : xTw q M' M2) : xTw q M M2 := ⟨fun j a b => (g.1 j a b).trans (h.1 j a b), fun j a b => (g.2 j a b).trans (h.2 j a b)⟩
theorem yTw.tr {b : Nat} {M M' M2 : Mem} (h : yTw b M M') (g : yTw b M' M2) : yTw b M M2 := ⟨fun j i a z => (g.1 j i a z).trans (h.1 j i a z), fun j i z => (g.2 j i z).trans (h.2 j i z)⟩
theorem yTw.all {b : Nat} {M M' : Mem} (h1 : ∀ a, 2 ≤ a → a ≤ 17 → gA M' a = gA M a) (h2 : ∀ a, 18 ≤ a → a ≤ 20 → gB M' a = gB M a) : yTw b M M' := ⟨fun a i z y => by rw [h1 a (by unfold regA at y; omega) z], fun a i y => by rw [h2 a (by unfold regB at y; omega) (by unfold regB at y; omega)]⟩
theorem TownR.tw {q b nt nc nd nr C : Nat} {MX MY MX' MY' : Mem} (h : TownR q b nt nc nd nr C MX MY) (hx : xTw q MX MX') (hy : yTw b MY MY') : TownR q b nt nc nd nr C MX' MY' :=
  h.cong (fun j a b => hx.1 j (by omega) b) (fun a h1 h2 => hx.2 a h1 h2) (fun a i h1 h2 => hy.1 a i (by unfold regA at h2; omega) h2) (fun a i h2 => hy.2 a i h2)
abbrev HF : Type := Nat → Int32 → Nat → Nat → Nat
abbrev GF : Type := Nat → Int32 → Nat → Nat → Bool
def FnX (n0 q nt : Nat) (hF : HF) (gF : GF) (M0 : Mem) : Prop := ∀ M c t h m, xTw q M0 M → PmX q c t h m M → PmO nt c t h m → hF c t h m ≤ 23 ∧ (∃ M', fX1_hourNow n0 M = some (nI (hF c t h m), M') ∧ VX2 M M') ∧ (¬ t = -1 → ∃ M', xTst n0 M = fX1_goOn_106 n0 (bI (gF c t h m = true)) M' ∧ VX2 M M')
def FnY (n0 b nt : Nat) (hF : HF) (gF : GF) (M0 : Mem) : Prop := ∀ M v c t h m, yTw b M0 M → PmY b v c t h m M → PmO nt c t h m → hF c t h m ≤ 23 ∧ (∃ M', fX12_hour n0 (nI v) (nI c) M = some (nI (hF c t h m), M') ∧ VY2 M M') ∧ (¬ t = -1 → ∃ M', fX12_isGone n0 (nI v) (nI c) M = some (bI (gF c t h m = true), M') ∧ VY2 M M')
theorem bIb {g g0 : Bool} (h : bI (g = true) = bI (g0 = true)) : g = g0 := by
  cases g <;> cases g0 <;> first | rfl | exact absurd h (by decide)
theorem townF1 {n0 q b nt nc nd nr C : Nat} {MX MY : Mem} (hn : 1700 ≤ n0) (hT : TownR q b nt nc nd nr C MX MY) (hq : q = 31 ∨ q = 47) (hb : b ≤ 1) (c : Nat) (t : Int32) (h m : Nat) :
    ∃ r : Nat × Bool, (∀ M, xTw q MX M → PmX q c t h m M → PmO nt c t h m → r.1 ≤ 23 ∧ (∃ M', fX1_hourNow n0 M = some (nI r.1, M') ∧ VX2 M M') ∧ (¬ t = -1 → ∃ M', xTst n0 M = fX1_goOn_106 n0 (bI (r.2 = true)) M' ∧ VX2 M M')) ∧ (∀ M v, yTw b MY M → PmY b v c t h m M → PmO nt c t h m → r.1 ≤ 23 ∧ (∃ M', fX12_hour n0 (nI v) (nI c) M = some (nI r.1, M') ∧ VY2 M M') ∧ (¬ t = -1 → ∃ M', fX12_isGone n0 (nI v) (nI c) M = some (bI (r.2 = true), M') ∧ VY2 M M')) := by
  by_cases hO : PmO nt c t h m
  · have hXc : PmX q c t h m (sI (sI (sI (sI (sR MX 896 q) 897 (nI c)) 898 t) 899 (nI h)) 900 (nI m)) := ⟨rfl, rfl, rfl, rfl, rfl⟩
    have tX : xTw q MX (sI (sI (sI (sI (sR MX 896 q) 897 (nI c)) 898 t) 899 (nI h)) 900 (nI m)) := ⟨fun j a _ => by rw [gI_ne (by omega), gI_ne (by omega), gI_ne (by omega), gI_ne (by omega)]; rfl, fun _ _ _ => rfl⟩
    have hYc : PmY b 0 c t h m (sA (sA (sA (sI MY 13 (nI b)) 28 0 (nI m)) 29 (5 * 0 + c) t) 30 (5 * 0 + c) (nI h)) := ⟨rfl, by decide, rfl, by rw [gA_sA_ne (by decide), gA_sA, if_pos rfl, if_pos rfl], by rw [gA_sA, if_pos rfl, if_pos rfl]⟩
    have tY : yTw b MY (sA (sA (sA (sI MY 13 (nI b)) 28 0 (nI m)) 29 (5 * 0 + c) t) 30 (5 * 0 + c) (nI h)) := ⟨fun a i _ _ => by rw [gA_sA_ne (by omega), gA_sA_ne (by omega), gA_sA_ne (by omega)]; rfl, fun _ _ _ => rfl⟩
    have key : ∀ M N v, xTw q MX M → PmX q c t h m M → yTw b MY N → PmY b v c t h m N → ∃ k M' N', k ≤ 23 ∧ fX1_hourNow n0 M = some (nI k, M') ∧ fX12_hour n0 (nI v) (nI c) N = some (nI k, N') ∧ VX2 M M' ∧ VY2 N N' := fun M N v a1 a2 a3 a4 => hourP hn (hT.tw a1 a3) hq hb a2 a4 hO
    have keg : ¬ t = -1 → ∀ M N v, xTw q MX M → PmX q c t h m M → yTw b MY N → PmY b v c t h m N → ∃ (g : Bool) (M' N' : Mem), xTst n0 M = fX1_goOn_106 n0 (bI (g = true)) M' ∧ fX12_isGone n0 (nI v) (nI c) N = some (bI (g = true), N') ∧ VX2 M M' ∧ VY2 N N' := fun hne M N v a1 a2 a3 a4 => goneP hn (hT.tw a1 a3) hq hb a2 a4 hO hne
    obtain ⟨k, _, _, k1, k2, k3, _, _⟩ := key _ _ 0 tX hXc tY hYc
    have xh : ∀ M, xTw q MX M → PmX q c t h m M → ∃ M', fX1_hourNow n0 M = some (nI k, M') ∧ VX2 M M' := fun M a1 a2 => by
      obtain ⟨k', M', _, l1, l2, l3, l4, _⟩ := key M _ 0 a1 a2 tY hYc
      have e := Option.some.inj (k3.symm.trans l3)
      have e1 : k = k' := (nI_eq (by omega) (by omega)).mp (Prod.mk.inj e).1
      subst e1
      exact ⟨M', l2, l4⟩
    have yh : ∀ N v, yTw b MY N → PmY b v c t h m N → ∃ N', fX12_hour n0 (nI v) (nI c) N = some (nI k, N') ∧ VY2 N N' := fun N v a1 a2 => by
      obtain ⟨k', _, N', l1, l2, l3, _, l5⟩ := key _ N v tX hXc a1 a2
      have e := Option.some.inj (k2.symm.trans l2)
      have e1 : k = k' := (nI_eq (by omega) (by omega)).mp (Prod.mk.inj e).1
      subst e1
      exact ⟨N', l3, l5⟩
    by_cases hne : t = -1
    · exact ⟨(k, false), fun M a1 a2 _ => ⟨k1, xh M a1 a2, fun z => absurd hne z⟩, fun M v a1 a2 _ => ⟨k1, yh M v a1 a2, fun z => absurd hne z⟩⟩
    · obtain ⟨g, M1, N1, g1, g2, g3, g4⟩ := keg hne _ _ 0 tX hXc tY hYc
      have yg : ∀ N v, yTw b MY N → PmY b v c t h m N → ∃ (g' : Bool) (M' N' : Mem), xTst n0 (sI (sI (sI (sI (sR MX 896 q) 897 (nI c)) 898 t) 899 (nI h)) 900 (nI m)) = fX1_goOn_106 n0 (bI (g' = true)) M' ∧ fX12_isGone n0 (nI v) (nI c) N = some (bI (g' = true), N') ∧ VX2 (sI (sI (sI (sI (sR MX 896 q) 897 (nI c)) 898 t) 899 (nI h)) 900 (nI m)) M' ∧ VY2 N N' := fun N v a1 a2 => by
        obtain ⟨g', M', N', l1, l2, l3, l4⟩ := keg hne _ N v tX hXc a1 a2
        exact ⟨g', M', N', l1, l2, l3, l4⟩
      have go106 : ∀ (u : Bool) (M : Mem), PmX q c t h m M → ∃ M', fX1_goOn_106 n0 (bI (u = true)) M = some M' ∧ gI M' 898 = if u = true then -1 else t := fun u M a => by
        cases u
        · exact ⟨M, by unfold fX1_goOn_106; exact eq_t (bI_f (by decide)) rfl, a.2.2.1⟩
        · exact ⟨sI (sI M 898 (-1)) 899 0, by unfold fX1_goOn_106; exact eq_f (by rw [bI_t rfl]; decide) rfl, rfl⟩
      refine ⟨(k, g), fun M a1 a2 _ => ⟨k1, xh M a1 a2, fun _ => ?_⟩, fun M v a1 a2 _ => ⟨k1, yh M v a1 a2, fun _ => ?_⟩⟩
      · obtain ⟨g', M', _, l1, l2, l3, _⟩ := keg hne M _ 0 a1 a2 tY hYc
        have e : g = g' := bIb (Prod.mk.inj (Option.some.inj (g2.symm.trans l2))).1
        subst e
        exact ⟨M', l1, l3⟩
      · obtain ⟨g', M', N', l1, l2, l3, l4⟩ := yg M v a1 a2
        have p1 : ∀ M', VX2 (sI (sI (sI (sI (sR MX 896 q) 897 (nI c)) 898 t) 899 (nI h)) 900 (nI m)) M' → PmX q c t h m M' := fun M' z => ⟨by rw [z.1]; rfl, (z.2.2.2.2 897 (by decide)).trans rfl, (z.2.2.2.2 898 (by decide)).trans rfl, (z.2.2.2.2 899 (by decide)).trans rfl, (z.2.2.2.2 900 (by decide)).trans rfl⟩
        obtain ⟨W1, w1, w2⟩ := go106 g M1 (p1 _ g3)
        obtain ⟨W2, w3, w4⟩ := go106 g' M' (p1 _ l3)
        have e := Option.some.inj ((w1.symm.trans g1.symm).trans (l1.trans w3))
        rw [← e, w2] at w4
        have e2 : g = g' := by
          cases g <;> cases g' <;> first | rfl | exact absurd w4 hne | exact absurd w4.symm hne
        subst e2
        exact ⟨N', l2, l4⟩
  · exact ⟨(0, false), fun M _ _ a => absurd a hO, fun M v _ _ a => absurd a hO⟩
theorem townF {n0 q b nt nc nd nr C : Nat} {MX MY : Mem} (hn : 1700 ≤ n0) (hT : TownR q b nt nc nd nr C MX MY) (hq : q = 31 ∨ q = 47) (hb : b ≤ 1) : ∃ (hF : HF) (gF : GF), FnX n0 q nt hF gF MX ∧ FnY n0 b nt hF gF MY := by
  have H := townF1 hn hT hq hb
  refine ⟨fun c t h m => (Classical.choose (H c t h m)).1, fun c t h m => (Classical.choose (H c t h m)).2, fun M c t h m a1 a2 a3 => ?_, fun M v c t h m a1 a2 a3 => ?_⟩
  · exact (Classical.choose_spec (H c t h m)).1 M a1 a2 a3
  · exact (Classical.choose_spec (H c t h m)).2 M v a1 a2 a3
theorem FnX.tw {n0 q nt : Nat} {hF : HF} {gF : GF} {M M' : Mem} (h : FnX n0 q nt hF gF M) (t : xTw q M M') : FnX n0 q nt hF gF M' := fun N c u x m a1 a2 a3 => h N c u x m (t.tr a1) a2 a3
theorem FnY.tw {n0 b nt : Nat} {hF : HF} {gF : GF} {M M' : Mem} (h : FnY n0 b nt hF gF M) (t : yTw b M M') : FnY n0 b nt hF gF M' := fun N v c u x m a1 a2 a3 => h N v c u x m (t.tr a1) a2 a3
end
section
/-! ONE PALM AS IT GOES ON, BY THE CLASS -/
def tk (gF : GF) (c m : Nat) (p : Int32 × Nat) : Int32 × Nat := if ¬ p.1 = -1 ∧ gF c p.1 (min 999 (p.2 + 1)) m = true then (-1, 0) else (p.1, min 999 (p.2 + 1))
def tr (gF : GF) (c m : Nat) (p : Int32 × Nat) : Nat → Int32 × Nat
  | 0 => p
  | k + 1 => tk gF c (m + k + 1) (tr gF c m p k)
def pOk (nt : Nat) (p : Int32 × Nat) : Prop := tOk nt p.1 ∧ p.2 ≤ 999
theorem tk_ok {nt c m : Nat} {gF : GF} {p : Int32 × Nat} (h : pOk nt p) : pOk nt (tk gF c m p) := by
  unfold tk pOk
  by_cases g : ¬ p.1 = -1 ∧ gF c p.1 (min 999 (p.2 + 1)) m = true
  · rw [if_pos g]; exact ⟨Or.inl rfl, Nat.zero_le _⟩
  · rw [if_neg g]; exact ⟨h.1, Nat.min_le_left _ _⟩
theorem tr_ok {nt c m : Nat} {gF : GF} {p : Int32 × Nat} (h : pOk nt p) : ∀ k, pOk nt (tr gF c m p k)
  | 0 => h
  | k + 1 => tk_ok (tr_ok h k)
/-- the hours of a palm: now, and k minutes on -/
def hrs (hF : HF) (gF : GF) (c m : Nat) (p : Int32 × Nat) (k : Nat) : Nat := hF c (tr gF c m p k).1 (tr gF c m p k).2 (m + k)
/-- what the class may change beside the arrays A while palms go on -/
def XF (A : Nat → Prop) (M M' : Mem) : Prop := gR M' = gR M ∧ gL M' = gL M ∧ gB M' = gB M ∧ (∀ a, ¬ (a = 8 ∨ a = 9 ∨ A a) → gA M' a = gA M a) ∧ ∀ k, ¬ ((897 ≤ k ∧ k ≤ 900) ∨ k = 903) → gI M' k = gI M k
theorem XF.r {A : Nat → Prop} {M : Mem} : XF A M M := ⟨rfl, rfl, rfl, fun _ _ => rfl, fun _ _ => rfl⟩
theorem XF.tr {A : Nat → Prop} {M M' M2 : Mem} (h : XF A M M') (g : XF A M' M2) : XF A M M2 := ⟨g.1.trans h.1, g.2.1.trans h.2.1, g.2.2.1.trans h.2.2.1, fun a z => (g.2.2.2.1 a z).trans (h.2.2.2.1 a z), fun a z => (g.2.2.2.2 a z).trans (h.2.2.2.2 a z)⟩
theorem XF.wk {A A' : Nat → Prop} {M M' : Mem} (h : XF A M M') (g : ∀ a, A a → A' a) : XF A' M M' := ⟨h.1, h.2.1, h.2.2.1, fun a z => h.2.2.2.1 a (fun e => z (by rcases e with e | e | e; exact Or.inl e; exact Or.inr (Or.inl e); exact Or.inr (Or.inr (g a e)))), h.2.2.2.2⟩
theorem XF.n {A : Nat → Prop} {M M' : Mem} (h : XF noN M M') : XF A M M' := h.wk (fun _ z => z.elim)
theorem XF.i {A : Nat → Prop} {M M' : Mem} {k : Nat} {v : Int32} (h : XF A M M') (hk : (897 ≤ k ∧ k ≤ 900) ∨ k = 903) : XF A M (sI M' k v) := ⟨h.1, h.2.1, h.2.2.1, h.2.2.2.1, fun j z => by rw [gI_ne (fun e => z (by rw [e]; exact hk))]; exact h.2.2.2.2 j z⟩
theorem XF.a {A : Nat → Prop} {M M' : Mem} {a i : Nat} {v : Int32} (h : XF A M M') (hk : A a) : XF A M (sA M' a i v) := ⟨h.1, h.2.1, h.2.2.1, fun j z => by rw [gA_sA_ne (fun e => z (by rw [e]; exact Or.inr (Or.inr hk)))]; exact h.2.2.2.1 j z, h.2.2.2.2⟩
theorem VX2.x {A : Nat → Prop} {M M' : Mem} (h : VX2 M M') : XF A M M' := ⟨h.1, h.2.1, h.2.2.1, fun a z => h.2.2.2.1 a (fun e => z (by omega)), fun k z => h.2.2.2.2 k (fun e => z (Or.inr e))⟩
theorem XF.tw {A : Nat → Prop} {M M' : Mem} {q : Nat} (h : XF A M M') (hq : q = 31 ∨ q = 47) (hA : ∀ a, A a → a < 31 ∨ 63 ≤ a) : xTw q M M' := ⟨fun j _ _ => h.2.2.2.2 j (by omega), fun a h1 h2 => h.2.2.2.1 a (fun e => by
  rcases e with e | e | e
  · omega
  · omega
  · have := hA a e; omega)⟩
theorem VX2.pm {M M' : Mem} {q c h m : Nat} {t : Int32} (f : VX2 M M') (hX : PmX q c t h m M) : PmX q c t h m M' := ⟨by rw [f.1]; exact hX.1, (f.2.2.2.2 897 (by decide)).trans hX.2.1, (f.2.2.2.2 898 (by decide)).trans hX.2.2.1, (f.2.2.2.2 899 (by decide)).trans hX.2.2.2.1, (f.2.2.2.2 900 (by decide)).trans hX.2.2.2.2⟩
def hld (M : Mem) (x1 x2 x3 x4 : Int32) : Mem := sI (sI (sI (sI M 897 x1) 898 x2) 899 x3) 900 x4
theorem xhold {n0 : Nat} {x1 x2 x3 x4 : Int32} {M : Mem} : fX1_hold n0 x1 x2 x3 x4 M = some (hld M x1 x2 x3 x4) := rfl
theorem hld_f {A : Nat → Prop} {x1 x2 x3 x4 : Int32} {M : Mem} : XF A M (hld M x1 x2 x3 x4) := by
  unfold hld
  exact (((XF.r.i (by omega)).i (by omega)).i (by omega)).i (by omega)
theorem hld_p {q c h m : Nat} {t : Int32} {M : Mem} (hR : gR M 896 = q) : PmX q c t h m (hld M (nI c) t (nI h) (nI m)) := ⟨hR, rfl, rfl, rfl, rfl⟩
theorem imin_nI {a b : Nat} (ha : a < 2 ^ 31) (hb : b < 2 ^ 31) : imin (nI a) (nI b) = nI (min a b) := by
  unfold imin
  by_cases g : b < a
  · rw [if_pos (nI_lt g ha), Nat.min_eq_right (Nat.le_of_lt g)]
  · rw [if_neg (fun z => g ((nI_ltI hb ha).mp z)), Nat.min_eq_left (by omega)]
theorem imax_nI {a b : Nat} (ha : a < 2 ^ 31) (hb : b < 2 ^ 31) : imax (nI a) (nI b) = nI (max a b) := by
  unfold imax
  by_cases g : a < b
  · rw [if_pos (nI_lt g hb), Nat.max_eq_right (Nat.le_of_lt g)]
  · rw [if_neg (fun z => g ((nI_ltI ha hb).mp z)), Nat.max_eq_left (by omega)]
theorem xThN {n0 q : Nat} {M : Mem} : fX9_isThing n0 q (-1) M = some (0, M) := by
  unfold fX9_isThing
  exact eq_t (by decide) rfl
theorem nI_nn {k : Nat} (h : k < 2 ^ 31) : ¬ nI k < 0 := fun z => absurd (show oob (nI k) (k + 1) from Or.inl z) (by
  by_cases g : k + 1 < 2 ^ 31
  · exact nI_in (by omega) g
  · exact fun e => by
      have := (nI_ltI (a := k) (b := 0) h (by decide)).mp z
      omega)
theorem xThT {n0 q nt k : Nat} {M : Mem} (hN : gI M (128 * q + 1) = nI nt) (hnt : nt ≤ 6) (hk : k < nt) : fX9_isThing n0 q (nI k) M = some (1, M) := by
  unfold fX9_isThing
  rw [hN]
  exact eq_f (nI_nn (by omega)) (eq_f (nI_ge hk (by omega)) rfl)
/-- a town of the class, with its functions -/
def XTn (n0 q nt : Nat) (hF : HF) (gF : GF) (M0 : Mem) : Prop := (q = 31 ∨ q = 47) ∧ nt ≤ 6 ∧ gI M0 (128 * q + 1) = nI nt ∧ FnX n0 q nt hF gF M0
theorem XTn.tw {n0 q nt : Nat} {hF : HF} {gF : GF} {M M' : Mem} (h : XTn n0 q nt hF gF M) (t : xTw q M M') : XTn n0 q nt hF gF M' := ⟨h.1, h.2.1, (t.1 _ (by omega) (by omega)).trans h.2.2.1, h.2.2.2.tw t⟩
theorem XTn.xf {n0 q nt : Nat} {hF : HF} {gF : GF} {A : Nat → Prop} {M M' : Mem} (h : XTn n0 q nt hF gF M) (t : XF A M M') (hA : ∀ a, A a → a < 31 ∨ 63 ≤ a) : XTn n0 q nt hF gF M' := h.tw (t.tw h.1 hA)
theorem xhr {n0 q nt c h m : Nat} {t : Int32} {hF : HF} {gF : GF} {M : Mem} (T : XTn n0 q nt hF gF M) (hX : PmX q c t h m M) (hO : PmO nt c t h m) : hF c t h m ≤ 23 ∧ ∃ M', fX1_hourNow n0 M = some (nI (hF c t h m), M') ∧ PmX q c t h m M' ∧ XF noN M M' := by
  obtain ⟨h1, ⟨M', e, f⟩, _⟩ := T.2.2.2 M c t h m xTw.r hX hO
  exact ⟨h1, M', e, f.pm hX, f.x⟩
theorem xgo {n0 q nt c h m : Nat} {t : Int32} {hF : HF} {gF : GF} {M : Mem} (T : XTn n0 q nt hF gF M) (hX : PmX q c t h m M) (hO : PmO nt c t h m) (hm : m < 9999) :
    ∃ M', fX1_goOn n0 M = some M' ∧ PmX q c (tk gF c (m + 1) (t, h)).1 (tk gF c (m + 1) (t, h)).2 (m + 1) M' ∧ XF noN M M' := by
  obtain ⟨x0, x1, x2, x3, x4⟩ := hX
  obtain ⟨hc, ht, hh, hm2⟩ := hO
  have e1 : imin 9999 (gI M 900 + 1) = nI (m + 1) := by
    rw [x4, show nI m + 1 = nI (m + 1) from nI_add m 1, show (9999 : Int32) = nI 9999 from rfl, imin_nI (by omega) (by omega), Nat.min_eq_right (by omega)]
  have e2 : imin 999 (gI (sI M 900 (nI (m + 1))) 899 + 1) = nI (min 999 (h + 1)) := by
    rw [gI_ne (by decide), x3, show nI h + 1 = nI (h + 1) from nI_add h 1, show (999 : Int32) = nI 999 from rfl, imin_nI (by omega) (by omega)]
  have fM : XF noN M (sI (sI M 900 (nI (m + 1))) 899 (nI (min 999 (h + 1)))) := (XF.r.i (by omega)).i (by omega)
  have p1 : PmX q c t (min 999 (h + 1)) (m + 1) (sI (sI M 900 (nI (m + 1))) 899 (nI (min 999 (h + 1)))) := ⟨x0, x1, x2, rfl, rfl⟩
  have T1 := T.xf fM (fun _ z => z.elim)
  have start : ∀ r, Option.bind (fX9_isThing n0 q t (sI (sI M 900 (nI (m + 1))) 899 (nI (min 999 (h + 1))))) (fun z40 => if z40.1 = 0 then some z40.2 else xTst n0 z40.2) = r → fX1_goOn n0 M = r := fun r hr => by
    unfold fX1_goOn
    refine eq_e (v' := sI M 900 (nI (m + 1))) (by rw [e1]) (eq_e (v' := sI (sI M 900 (nI (m + 1))) 899 (nI (min 999 (h + 1)))) (by rw [e2]) ?_)
    rw [p1.1, p1.2.2.1]
    exact hr
  rcases ht with ht | ⟨k, hk, ht⟩
  · refine ⟨_, start _ (by rw [ht]; exact eq_b xThN (eq_t rfl rfl)), ?_, fM⟩
    have e3 : tk gF c (m + 1) (t, h) = (t, min 999 (h + 1)) := by
      unfold tk
      exact if_neg (fun z => z.1 ht)
    rw [e3]
    exact p1
  · have hne : ¬ t = -1 := by rw [ht]; exact nI_m1 (by have := T.2.1; omega)
    obtain ⟨M', e4, f4⟩ := (T1.2.2.2 _ c t (min 999 (h + 1)) (m + 1) xTw.r p1 ⟨hc, Or.inr ⟨k, hk, ht⟩, Nat.min_le_left _ _, by omega⟩).2.2 hne
    have p2 := f4.pm p1
    have st : fX1_goOn n0 M = fX1_goOn_106 n0 (bI (gF c t (min 999 (h + 1)) (m + 1) = true)) M' := start _ (by
      rw [ht]
      refine eq_b (xThT T1.2.2.1 T.2.1 hk) (eq_f (show ¬ (1 : Int32) = 0 by decide) ?_)
      rw [← ht]
      exact e4)
    unfold fX1_goOn_106 at st
    by_cases g : gF c t (min 999 (h + 1)) (m + 1) = true
    · refine ⟨sI (sI M' 898 (-1)) 899 0, st.trans (eq_f (by rw [bI_t g]; decide) rfl), ?_, ((fM.tr f4.x).i (by omega)).i (by omega)⟩
      have e3 : tk gF c (m + 1) (t, h) = (-1, 0) := by
        unfold tk
        exact if_pos ⟨hne, g⟩
      rw [e3]
      exact ⟨p2.1, p2.2.1, rfl, rfl, p2.2.2.2.2⟩
    · refine ⟨M', st.trans (eq_t (bI_f g) rfl), ?_, fM.tr f4.x⟩
      have e3 : tk gF c (m + 1) (t, h) = (t, min 999 (h + 1)) := by
        unfold tk
        exact if_neg (fun z => g z.2)
      rw [e3]
      exact p2
abbrev fcL (n0 q1 : Nat) : Nat → Int32 → Int32 → Mem → Option (Int32 × Mem) := loopN (bX1_foresee_23 n0 q1) (fun _ _ _ => none)
theorem xfl {n0 q nt c m last q1 : Nat} {p : Int32 × Nat} {hF : HF} {gF : GF} (hc : c < 5) (hp : pOk nt p) (hl : m + last ≤ 9999) (h60 : last ≤ 60) (hq1 : q1 = 26 ∨ q1 = 27) :
    ∀ w k M, k ≤ last + 1 → last + 1 < w + k → XTn n0 q nt hF gF M → PmX q c (tr gF c m p (k - 1)).1 (tr gF c m p (k - 1)).2 (m + (k - 1)) M → (∀ j, j < k → gA M q1 j = nI (hrs hF gF c m p j)) →
    ∃ M', fcL n0 q1 w (nI last) (nI k) M = some (nI last, M') ∧ (∀ j, j ≤ last → gA M' q1 j = nI (hrs hF gF c m p j)) ∧ XF (fun a => a = q1) M M'
  | 0, k, M, hk, hw, _, _, _ => by omega
  | w + 1, k, M, hk, hw, T, hP, hA => by
    show ∃ M', bX1_foresee_23 n0 q1 (fcL n0 q1 w) (nI last) (nI k) M = _ ∧ _
    by_cases g : k = last + 1
    · exact ⟨M, by unfold bX1_foresee_23; exact eq_t (nI_lt (by omega) (by omega)) rfl, fun j hj => hA j (by omega), XF.r⟩
    · have ln : LX.ln q1 = 61 := by rcases hq1 with rfl | rfl <;> rfl
      -- behind the minute
      have mid : ∃ M1, (∀ r, fX1_foresee_38 n0 q1 (fcL n0 q1 w) (nI last) (nI k) M1 = r → bX1_foresee_23 n0 q1 (fcL n0 q1 w) (nI last) (nI k) M = r) ∧ PmX q c (tr gF c m p k).1 (tr gF c m p k).2 (m + k) M1 ∧ XF noN M M1 := by
        by_cases g0 : k = 0
        · subst g0
          exact ⟨M, fun r hr => by unfold bX1_foresee_23; exact eq_f (fun z => by have := (nI_ltI (a := last) (b := 0) (by omega) (by omega)).mp z; omega) (eq_t (by decide) hr), hP, XF.r⟩
        · obtain ⟨j, rfl⟩ : ∃ j, k = j + 1 := ⟨k - 1, by omega⟩
          have ok := tr_ok (gF := gF) (c := c) (m := m) hp j
          rw [Nat.add_sub_cancel] at hP
          obtain ⟨M1, e1, e2, e3⟩ := xgo T hP ⟨hc, ok.1, ok.2, by omega⟩ (by omega)
          exact ⟨M1, fun r hr => by unfold bX1_foresee_23; exact eq_f (fun z => by have := (nI_ltI (a := last) (b := j + 1) (by omega) (by omega)).mp z; omega) (eq_f (nI_ge (a := 0) (by omega) (by omega)) (eq_b e1 hr)), e2, e3⟩
      obtain ⟨M1, e1, e2, e3⟩ := mid
      have ok := tr_ok (gF := gF) (c := c) (m := m) hp k
      obtain ⟨_, M2, b1, b2, b3⟩ := xhr (T.xf e3 (fun _ z => z.elim)) e2 ⟨hc, ok.1, ok.2, by omega⟩
      have f3 : XF (fun a => a = q1) M (sA M2 q1 k (nI (hrs hF gF c m p k))) := ((e3.tr b3).n).a rfl
      obtain ⟨M', d1, d2, d3⟩ := xfl hc hp hl h60 hq1 w (k + 1) (sA M2 q1 k (nI (hrs hF gF c m p k))) (by omega) (by omega) (T.xf f3 (fun a z => by omega)) (by rw [Nat.add_sub_cancel]; exact b2) (fun j hj => by
        rw [gA_sA, if_pos rfl]
        by_cases h : j = k
        · rw [if_pos h, h]
        · rw [if_neg h, (e3.tr b3).2.2.2.1 q1 (fun z => by rcases z with z | z | z; omega; omega; exact z)]
          exact hA j (by omega))
      refine ⟨M', e1 _ ?_, d2, f3.tr d3⟩
      unfold fX1_foresee_38
      refine eq_b b1 (eq_f (by rw [ln]; exact nI_in (by omega) (by decide)) (eq_e (v' := sA M2 q1 k (nI (hrs hF gF c m p k))) ?_ ?_))
      · show sA M2 q1 (nI k).toNatClampNeg _ = _
        rw [nI_clamp (by omega)]
        rfl
      · rw [show nI k + 1 = nI (k + 1) from nI_add k 1]
        exact d1
theorem xfor {n0 q nt c m most q1 : Nat} {t : Int32} {h : Nat} {hF : HF} {gF : GF} {M : Mem} (hn : 1700 ≤ n0) (T : XTn n0 q nt hF gF M) (hX : PmX q c t h m M) (hc : c < 5) (hp : pOk nt (t, h)) (hm : m ≤ 9999) (h60 : most ≤ 60) (hq1 : q1 = 26 ∨ q1 = 27) :
    ∃ M', fX1_foresee n0 q1 (nI most) M = some (nI (min most (9999 - m)), M') ∧ (∀ j, j ≤ min most (9999 - m) → gA M' q1 j = nI (hrs hF gF c m (t, h) j)) ∧ XF (fun a => a = q1) M M' := by
  have ln : LX.ln q1 = 61 := by rcases hq1 with rfl | rfl <;> rfl
  obtain ⟨M', e1, e2, e3⟩ := xfl (n0 := n0) (hF := hF) (gF := gF) (p := (t, h)) (m := m) (last := min most (9999 - m)) hc hp (by omega) (by omega) hq1 n0 0 M (by omega) (by omega) T hX (fun j hj => by omega)
  refine ⟨M', ?_, e2, e3⟩
  unfold fX1_foresee
  refine eq_e (v' := nI (min most (9999 - m))) ?_ e1
  rw [ln, hX.2.2.2.2, show (9999 : Int32) - nI m = nI (9999 - m) from nI_subN hm, show (Int32.ofNat 61) - (1 : Int32) = nI 60 from rfl, imin_nI (by omega) (by omega), imin_nI (by omega) (by omega), Nat.min_eq_left h60]
end
section
/-! A LAYER OF THE REFERENCE: palms and minute, doings done, what is kept -/
/-- a town's numbers and functions: things, corners, doings, the corner and the hour of a doing, hours, ends -/
def TP : Type := Nat × Nat × Nat × (Nat → Nat) × (Nat → Nat) × HF × GF
def TP.nt (T : TP) : Nat := T.1
def TP.nc (T : TP) : Nat := T.2.1
def TP.nd (T : TP) : Nat := T.2.2.1
def TP.dc (T : TP) : Nat → Nat := T.2.2.2.1
def TP.dh (T : TP) : Nat → Nat := T.2.2.2.2.1
def TP.hF (T : TP) : HF := T.2.2.2.2.2.1
def TP.gF (T : TP) : GF := T.2.2.2.2.2.2
def TP.ok (T : TP) : Prop := T.nt ≤ 6 ∧ T.nc ≤ 5 ∧ T.nd ≤ 6 ∧ ∀ d, d < T.nd → T.dc d < T.nc ∧ T.dh d ≤ 23
def XT (n0 q : Nat) (T : TP) (M : Mem) : Prop := XTn n0 q T.nt T.hF T.gF M ∧ T.ok ∧ gI M (128 * q + 5) = nI T.nc ∧ gI M (128 * q + 12) = nI T.nd ∧ ∀ d, d < T.nd → gA M (q + 10) d = nI (T.dc d) ∧ gA M (q + 11) d = nI (T.dh d)
def YT (n0 b : Nat) (T : TP) (M : Mem) : Prop := FnY n0 b T.nt T.hF T.gF M ∧ T.ok ∧ b ≤ 1 ∧ gI M 13 = nI b ∧ gA M 2 b = nI T.nt ∧ gA M 5 b = nI T.nc ∧ gA M 10 b = nI T.nd ∧ ∀ d, d < T.nd → gA M 11 (6 * b + d) = nI (T.dc d) ∧ gA M 12 (6 * b + d) = nI (T.dh d)
theorem XT.tw {n0 q : Nat} {T : TP} {M M' : Mem} (h : XT n0 q T M) (t : xTw q M M') : XT n0 q T M' := ⟨h.1.tw t, h.2.1, (t.1 _ (by omega) (by omega)).trans h.2.2.1, (t.1 _ (by omega) (by omega)).trans h.2.2.2.1, fun d hd => by
  rw [t.2 _ (by omega) (by omega), t.2 _ (by omega) (by omega)]
  exact h.2.2.2.2 d hd⟩
theorem XT.xf {n0 q : Nat} {T : TP} {A : Nat → Prop} {M M' : Mem} (h : XT n0 q T M) (t : XF A M M') (hA : ∀ a, A a → a < 31 ∨ 63 ≤ a) : XT n0 q T M' := h.tw (t.tw h.1.1 hA)
theorem YT.tw {n0 b : Nat} {T : TP} {M M' : Mem} (h : YT n0 b T M) (t : yTw b M M') (h13 : gI M' 13 = gI M 13) : YT n0 b T M' := ⟨h.1.tw t, h.2.1, h.2.2.1, h13.trans h.2.2.2.1, by rw [t.1 2 b (by omega) (by unfold regA; omega)]; exact h.2.2.2.2.1, by rw [t.1 5 b (by omega) (by unfold regA; omega)]; exact h.2.2.2.2.2.1, by rw [t.1 10 b (by omega) (by unfold regA; omega)]; exact h.2.2.2.2.2.2.1, fun d hd => by
  have h6 := h.2.1.2.2.1
  rw [t.1 11 (6 * b + d) (by omega) (by unfold regA; omega), t.1 12 (6 * b + d) (by omega) (by unfold regA; omega)]
  exact h.2.2.2.2.2.2.2 d hd⟩
/-- what the reference may change beside the cells P while it looks at palms -/
def YF (P : Nat → Nat → Prop) (M M' : Mem) : Prop := gR M' = gR M ∧ gL M' = gL M ∧ gI M' = gI M ∧ (∀ a i, ¬ a = 35 → ¬ P a i → gA M' a i = gA M a i) ∧ ∀ a, ¬ a = 34 → gB M' a = gB M a
def tP (v a i : Nat) : Prop := (a = 28 ∧ i = v) ∨ ((a = 29 ∨ a = 30) ∧ 5 * v ≤ i ∧ i < 5 * v + 5)
def dP (v a i : Nat) : Prop := ((a = 31 ∨ a = 32) ∧ i = v) ∨ (a = 33 ∧ 80 * v ≤ i ∧ i < 80 * v + 80)
def lP (v a i : Nat) : Prop := tP v a i ∨ dP v a i
theorem YF.r {P : Nat → Nat → Prop} {M : Mem} : YF P M M := ⟨rfl, rfl, rfl, fun _ _ _ _ => rfl, fun _ _ => rfl⟩
theorem YF.tr {P : Nat → Nat → Prop} {M M' M2 : Mem} (h : YF P M M') (g : YF P M' M2) : YF P M M2 := ⟨g.1.trans h.1, g.2.1.trans h.2.1, g.2.2.1.trans h.2.2.1, fun a i z y => (g.2.2.2.1 a i z y).trans (h.2.2.2.1 a i z y), fun a z => (g.2.2.2.2 a z).trans (h.2.2.2.2 a z)⟩
theorem YF.wk {P Q : Nat → Nat → Prop} {M M' : Mem} (h : YF P M M') (g : ∀ a i, P a i → Q a i) : YF Q M M' := ⟨h.1, h.2.1, h.2.2.1, fun a i z y => h.2.2.2.1 a i z (fun e => y (g a i e)), h.2.2.2.2⟩
theorem YF.a {P : Nat → Nat → Prop} {M M' : Mem} {a i : Nat} {v : Int32} (h : YF P M M') (hk : P a i) : YF P M (sA M' a i v) := ⟨h.1, h.2.1, h.2.2.1, fun c j z y => by
  rw [gA_sA]
  by_cases e : c = a
  · subst e
    rw [if_pos rfl, if_neg (fun e => y (by rw [e]; exact hk))]
    exact h.2.2.2.1 _ _ z y
  · rw [if_neg e]
    exact h.2.2.2.1 _ _ z y, h.2.2.2.2⟩
theorem VY2.y {P : Nat → Nat → Prop} {M M' : Mem} (h : VY2 M M') : YF P M M' := ⟨h.1, h.2.1, h.2.2.1, fun a i z _ => by rw [h.2.2.2.1 a z], h.2.2.2.2⟩
theorem YF.tw {b : Nat} {P : Nat → Nat → Prop} {M M' : Mem} (h : YF P M M') (hP : ∀ a i, P a i → 28 ≤ a) : yTw b M M' := yTw.all (fun a h1 h2 => by funext i; exact h.2.2.2.1 a i (by omega) (fun z => by have := hP a i z; omega)) (fun a h1 h2 => h.2.2.2.2 a (by omega))
theorem YT.yf {n0 b : Nat} {T : TP} {P : Nat → Nat → Prop} {M M' : Mem} (h : YT n0 b T M) (t : YF P M M') (hP : ∀ a i, P a i → 28 ≤ a) : YT n0 b T M' := h.tw (t.tw hP) (by rw [t.2.2.1])
theorem tP28 {v : Nat} : ∀ a i, tP v a i → 28 ≤ a := fun a i z => by unfold tP at z; omega
theorem dP28 {v : Nat} : ∀ a i, dP v a i → 28 ≤ a := fun a i z => by unfold dP at z; omega
theorem lP28 {v : Nat} : ∀ a i, lP v a i → 28 ≤ a := fun a i z => by unfold lP tP dP at z; omega
/-- minute and palms of a layer -/
def Ly (v nc m : Nat) (pm : Nat → Int32 × Nat) (M : Mem) : Prop := gA M 28 v = nI m ∧ ∀ c, c < nc → gA M 29 (5 * v + c) = (pm c).1 ∧ gA M 30 (5 * v + c) = nI (pm c).2
def PsO (nt nc : Nat) (pm : Nat → Int32 × Nat) : Prop := ∀ c, c < nc → pOk nt (pm c)
theorem Ly.fr {v nc m : Nat} {pm : Nat → Int32 × Nat} {P : Nat → Nat → Prop} {M M' : Mem} (h : Ly v nc m pm M) (f : YF P M M') (hc : nc ≤ 5) (hP : ∀ a i, P a i → ¬ tP v a i) : Ly v nc m pm M' := ⟨(f.2.2.2.1 28 v (by decide) (fun z => hP _ _ z (by unfold tP; omega))).trans h.1, fun c h1 => by
  rw [f.2.2.2.1 29 _ (by decide) (fun z => hP _ _ z (by unfold tP; omega)), f.2.2.2.1 30 _ (by decide) (fun z => hP _ _ z (by unfold tP; omega))]
  exact h.2 c h1⟩
theorem Ly.pm {b v nc m c : Nat} {pm : Nat → Int32 × Nat} {M : Mem} (h : Ly v nc m pm M) (h13 : gI M 13 = nI b) (hv : v < 22) (hc : c < nc) : PmY b v c (pm c).1 (pm c).2 m M := ⟨h13, hv, h.1, (h.2 c hc).1, (h.2 c hc).2⟩
theorem yhr {n0 b v c m : Nat} {T : TP} {pm : Nat → Int32 × Nat} {M : Mem} (hT : YT n0 b T M) (hv : v < 22) (hL : Ly v T.nc m pm M) (hO : PsO T.nt T.nc pm) (hm : m ≤ 20000) (hc : c < T.nc) : T.hF c (pm c).1 (pm c).2 m ≤ 23 ∧ ∃ M', fX12_hour n0 (nI v) (nI c) M = some (nI (T.hF c (pm c).1 (pm c).2 m), M') ∧ VY2 M M' := by
  have h5 := hT.2.1.2.1
  have o := hO c hc
  obtain ⟨h1, h2, _⟩ := hT.1 M v c (pm c).1 (pm c).2 m yTw.r (hL.pm hT.2.2.2.1 hv hc) ⟨by omega, o.1, o.2, hm⟩
  exact ⟨h1, h2⟩
theorem ygoneN {n0 v c : Nat} {M : Mem} (hv : v < 22) (hc : c < 5) (h29 : gA M 29 (5 * v + c) = -1) : ∃ M', fX12_isGone n0 (nI v) (nI c) M = some (0, M') ∧ VY2 M M' := by
  refine ⟨yLay 0 (gA M 30 (5 * v + c)) (nI c) (gA M 28 v) 1 0 M, ?_, yLay_f⟩
  unfold fX12_isGone
  refine eq_b (ylayN hv hc h29) (eq_f (by rw [yIx]; exact nI_in (by omega) (by decide)) (eq_t ?_ rfl))
  rw [yLay_f.2.2.2.1 29 (by decide), yIx, nI_clamp (by omega)]
  exact h29
theorem yputs {n0 v c : Nat} {x : Int32} {M : Mem} (hv : v < 22) (hc : c < 5) : fX12_puts n0 (nI v) (nI c) x M = some (sA (sA M 29 (5 * v + c) x) 30 (5 * v + c) 0) := by
  have c1 : (nI (5 * v + c)).toNatClampNeg = 5 * v + c := nI_clamp (by omega)
  unfold fX12_puts
  simp only [yIx, c1]
  exact eq_f (nI_in (by omega) (by decide)) (eq_n (eq_f (nI_in (by omega) (by decide)) rfl))
abbrev tkL (n0 : Nat) : Nat → Int32 → Int32 → Mem → Option Mem := loopN (bX12_ticks_12 n0) (fun _ _ _ => none)
def pmAt (gF : GF) (m : Nat) (pm : Nat → Int32 × Nat) (c : Nat) : Nat → Int32 × Nat := fun j => if j < c then tk gF j m (pm j) else pm j
theorem ytk {n0 b v m : Nat} {T : TP} {pm : Nat → Int32 × Nat} (hv : v < 22) (hO : PsO T.nt T.nc pm) (hm : m ≤ 20000) : ∀ w c M, c ≤ T.nc → T.nc < w + c → YT n0 b T M → Ly v T.nc m (pmAt T.gF m pm c) M →
    ∃ M', tkL n0 w (nI v) (nI c) M = some M' ∧ Ly v T.nc m (fun j => tk T.gF j m (pm j)) M' ∧ YF (tP v) M M'
  | 0, c, M, hc, hw, _, _ => by omega
  | w + 1, c, M, hc, hw, hT, hL => by
    show ∃ M', bX12_ticks_12 n0 (tkL n0 w) (nI v) (nI c) M = _ ∧ _
    have h5 := hT.2.1.2.1
    have hb := hT.2.2.1
    have h13 := hT.2.2.2.1
    have cb : (nI b).toNatClampNeg = b := nI_clamp (by omega)
    have q5 : gA M 5 (gI M 13).toNatClampNeg = nI T.nc := by rw [h13, cb]; exact hT.2.2.2.2.2.1
    have o13 : ¬ oob (gI M 13) 2 := by rw [h13]; exact nI_in (by omega) (by decide)
    by_cases g : c = T.nc
    · refine ⟨M, ?_, ⟨hL.1, fun j hj => ?_⟩, YF.r⟩
      · unfold bX12_ticks_12
        exact eq_f o13 (eq_t (by rw [q5, g]; exact Int32.le_refl _) rfl)
      · have := hL.2 j hj
        unfold pmAt at this
        rw [if_pos (by omega)] at this
        exact this
    · have c5 : c < 5 := by omega
      have hcn : c < T.nc := by omega
      have pc : pmAt T.gF m pm c c = pm c := if_neg (by omega)
      obtain ⟨l1, l2⟩ := hL.2 c hcn
      rw [pc] at l1 l2
      have ok := hO c hcn
      have ok2 := ok.2
      have c1 : (nI (5 * v + c)).toNatClampNeg = 5 * v + c := nI_clamp (by omega)
      have oc : ¬ oob (nI (5 * v + c)) 110 := nI_in (by omega) (by decide)
      -- one minute longer
      have s1 : ∀ r, fX12_ticks_55 n0 (tkL n0 w) (nI v) (nI c) (sA M 30 (5 * v + c) (nI (min 999 ((pm c).2 + 1)))) = r → bX12_ticks_12 n0 (tkL n0 w) (nI v) (nI c) M = r := fun r hr => by
        unfold bX12_ticks_12
        refine eq_f o13 (eq_f (by rw [q5]; exact nI_ge hcn (by omega)) ?_)
        simp only [yIx, c1, l2]
        refine eq_f oc ?_
        by_cases g9 : 999 ≤ (pm c).2
        · refine eq_t (nI_le (a := 999) g9 (by omega)) ?_
          have e : sA M 30 (5 * v + c) (nI (min 999 ((pm c).2 + 1))) = M := by
            rw [show min 999 ((pm c).2 + 1) = (pm c).2 by omega]
            obtain ⟨a1, a2, a3⟩ := M
            show (a1, va_up a2 30 (upd (a2 30) (5 * v + c) (nI (pm c).2)), a3) = (a1, a2, a3)
            have : va_up a2 30 (upd (a2 30) (5 * v + c) (nI (pm c).2)) = a2 := by
              funext j i
              unfold va_up upd
              by_cases h : j = 30
              · rw [if_pos h, h]
                by_cases h2 : i = 5 * v + c
                · rw [if_pos h2, h2]; exact l2.symm
                · rw [if_neg h2]
              · rw [if_neg h]
            rw [this]
          rw [e] at hr
          exact hr
        · refine eq_f (fun z => g9 ((nI_leI (a := 999) (by omega) (by omega)).mp z)) (eq_f oc (eq_f oc ?_))
          rw [show nI (pm c).2 + 1 = nI ((pm c).2 + 1) from nI_add _ 1, show (pm c).2 + 1 = min 999 ((pm c).2 + 1) by omega]
          exact hr
      have hM1 : ∃ M1, M1 = sA M 30 (5 * v + c) (nI (min 999 ((pm c).2 + 1))) := ⟨_, rfl⟩
      obtain ⟨M1, eM1⟩ := hM1
      rw [← eM1] at s1
      have f1 : YF (tP v) M M1 := by rw [eM1]; exact YF.r.a (by unfold tP; omega)
      have a29 : gA M1 29 (5 * v + c) = (pm c).1 := by rw [eM1, gA_sA_ne (by decide)]; exact l1
      have a30 : gA M1 30 (5 * v + c) = nI (min 999 ((pm c).2 + 1)) := by rw [eM1, gA_sA, if_pos rfl, if_pos rfl]
      have a28 : gA M1 28 v = nI m := by rw [eM1, gA_sA_ne (by decide)]; exact hL.1
      have T1 := hT.yf f1 tP28
      have oth : ∀ j, j < T.nc → ¬ j = c → gA M1 29 (5 * v + j) = (pmAt T.gF m pm c j).1 ∧ gA M1 30 (5 * v + j) = nI (pmAt T.gF m pm c j).2 := fun j hj hne => by
        rw [eM1, gA_sA_ne (by decide), gA_sA, if_pos rfl, if_neg (by omega)]
        exact hL.2 j hj
      have fin : ∀ M2, YF (tP v) M1 M2 → gA M2 28 v = nI m → gA M2 29 (5 * v + c) = (tk T.gF c m (pm c)).1 → gA M2 30 (5 * v + c) = nI (tk T.gF c m (pm c)).2 → (∀ j, ¬ j = c → gA M2 29 (5 * v + j) = gA M1 29 (5 * v + j) ∧ gA M2 30 (5 * v + j) = gA M1 30 (5 * v + j)) → fX12_ticks_55 n0 (tkL n0 w) (nI v) (nI c) M1 = tkL n0 w (nI v) (nI (c + 1)) M2 → ∃ M', bX12_ticks_12 n0 (tkL n0 w) (nI v) (nI c) M = some M' ∧ Ly v T.nc m (fun j => tk T.gF j m (pm j)) M' ∧ YF (tP v) M M' := fun M2 b1 b2 b3 b4 b5 b6 => by
        obtain ⟨M', d1, d2, d3⟩ := ytk hv hO hm w (c + 1) M2 (by omega) (by omega) (T1.yf b1 tP28) ⟨b2, fun j hj => by
          by_cases h : j = c
          · rw [h, b3, b4]
            unfold pmAt
            rw [if_pos (by omega)]
            exact ⟨rfl, rfl⟩
          · rw [(b5 j h).1, (b5 j h).2, (oth j hj h).1, (oth j hj h).2]
            unfold pmAt
            by_cases h2 : j < c
            · rw [if_pos h2, if_pos (by omega)]; exact ⟨rfl, rfl⟩
            · rw [if_neg h2, if_neg (by omega)]; exact ⟨rfl, rfl⟩⟩
        exact ⟨M', s1 _ (b6.trans d1), d2, f1.tr (b1.tr d3)⟩
      have s2 : ∀ (M2 : Mem), fX12_ticks_71 n0 (tkL n0 w) (nI v) (nI c) M2 = tkL n0 w (nI v) (nI (c + 1)) M2 := fun M2 => by
        unfold fX12_ticks_71
        rw [show nI c + 1 = nI (c + 1) from nI_add c 1]
      by_cases hne : (pm c).1 = -1
      · obtain ⟨M2, e1, e2⟩ := ygoneN (n0 := n0) hv c5 (a29.trans hne)
        have tkv : tk T.gF c m (pm c) = ((pm c).1, min 999 ((pm c).2 + 1)) := if_neg (fun z => z.1 hne)
        refine fin M2 e2.y (by rw [e2.2.2.2.1 28 (by decide)]; exact a28) (by rw [e2.2.2.2.1 29 (by decide), tkv]; exact a29) (by rw [e2.2.2.2.1 30 (by decide), tkv]; exact a30) (fun j _ => by rw [e2.2.2.2.1 29 (by decide), e2.2.2.2.1 30 (by decide)]; exact ⟨rfl, rfl⟩) ?_
        unfold fX12_ticks_55
        exact eq_b e1 (eq_t rfl (s2 M2))
      · obtain ⟨M2, e1, e2⟩ := (T1.1 M1 v c (pm c).1 (min 999 ((pm c).2 + 1)) m yTw.r ⟨T1.2.2.2.1, hv, a28, a29, a30⟩ ⟨c5, ok.1, Nat.min_le_left _ _, hm⟩).2.2 hne
        by_cases gg : T.gF c (pm c).1 (min 999 ((pm c).2 + 1)) m = true
        · have tkv : tk T.gF c m (pm c) = (-1, 0) := if_pos ⟨hne, gg⟩
          refine fin (sA (sA M2 29 (5 * v + c) (-1)) 30 (5 * v + c) 0) ((e2.y.a (by unfold tP; omega)).a (by unfold tP; omega)) (by rw [gA_sA_ne (by decide), gA_sA_ne (by decide), e2.2.2.2.1 28 (by decide)]; exact a28) (by rw [gA_sA_ne (by decide), gA_sA, if_pos rfl, if_pos rfl, tkv]) (by rw [gA_sA, if_pos rfl, if_pos rfl, tkv]; rfl) (fun j hj => ⟨by rw [gA_sA_ne (by decide), gA_sA, if_pos rfl, if_neg (by omega), e2.2.2.2.1 29 (by decide)], by rw [gA_sA, if_pos rfl, if_neg (by omega), gA_sA_ne (by decide), e2.2.2.2.1 30 (by decide)]⟩) ?_
          unfold fX12_ticks_55
          exact eq_b e1 (eq_f (show ¬ bI (T.gF c (pm c).1 (min 999 ((pm c).2 + 1)) m = true) = 0 by rw [bI_t gg]; decide) (eq_b (yputs hv c5) (s2 _)))
        · have tkv : tk T.gF c m (pm c) = ((pm c).1, min 999 ((pm c).2 + 1)) := if_neg (fun z => gg z.2)
          refine fin M2 e2.y (by rw [e2.2.2.2.1 28 (by decide)]; exact a28) (by rw [e2.2.2.2.1 29 (by decide), tkv]; exact a29) (by rw [e2.2.2.2.1 30 (by decide), tkv]; exact a30) (fun j _ => by rw [e2.2.2.2.1 29 (by decide), e2.2.2.2.1 30 (by decide)]; exact ⟨rfl, rfl⟩) ?_
          unfold fX12_ticks_55
          exact eq_b e1 (eq_t (show bI (T.gF c (pm c).1 (min 999 ((pm c).2 + 1)) m = true) = 0 from bI_f gg) (s2 M2))
theorem yticks {n0 b v m : Nat} {T : TP} {pm : Nat → Int32 × Nat} {M : Mem} (hn : 1700 ≤ n0) (hT : YT n0 b T M) (hv : v < 22) (hL : Ly v T.nc m pm M) (hO : PsO T.nt T.nc pm) (hm : m < 20000) : ∃ M', fX12_ticks n0 (nI v) M = some M' ∧ Ly v T.nc (m + 1) (fun j => tk T.gF j (m + 1) (pm j)) M' ∧ YF (tP v) M M' := by
  have h5 := hT.2.1.2.1
  have cv : (nI v).toNatClampNeg = v := nI_clamp (by omega)
  have f1 : YF (tP v) M (sA M 28 v (nI (m + 1))) := YF.r.a (by unfold tP; omega)
  obtain ⟨M', e1, e2, e3⟩ := ytk (b := b) (pm := pm) hv hO (show m + 1 ≤ 20000 by omega) n0 0 (sA M 28 v (nI (m + 1))) (by omega) (by omega) (hT.yf f1 tP28) ⟨by rw [gA_sA, if_pos rfl, if_pos rfl], fun c hc => by
    rw [gA_sA_ne (by decide), gA_sA_ne (by decide)]
    unfold pmAt
    rw [if_neg (by omega)]
    exact hL.2 c hc⟩
  refine ⟨M', ?_, e2, f1.tr e3⟩
  unfold fX12_ticks
  simp only [cv, hL.1]
  refine eq_f (nI_in hv (by decide)) (eq_f (nI_in hv (by decide)) (eq_e (v' := sA M 28 v (nI (m + 1))) (by rw [show nI m + 1 = nI (m + 1) from nI_add m 1]) e1))
end
section
/-! DOINGS DONE AND KEPT: bits, rows -/
theorem bt_has : ∀ D, D < 64 → ∀ d, d < 6 → ((((nI D) >>> ((nI d) &&& 31)) &&& (1 : Int32) = 1) ↔ D / 2 ^ d % 2 = 1) := by decide +kernel
theorem bt_or : ∀ D, D < 64 → ∀ d, d < 6 → D / 2 ^ d % 2 = 0 → (nI D) ||| ((1 : Int32) <<< ((nI d) &&& 31)) = nI (D + 2 ^ d) := by decide +kernel
theorem bt_lt : ∀ n, n < 7 → ∀ D, D < 2 ^ n → ∀ d, d < n → D / 2 ^ d % 2 = 0 → D + 2 ^ d < 2 ^ n := by decide +kernel
def pc (D : Nat) : Nat := D % 2 + D / 2 % 2 + D / 4 % 2 + D / 8 % 2 + D / 16 % 2 + D / 32 % 2
theorem pc_le (D : Nat) : pc D ≤ 6 := by unfold pc; omega
theorem bt_pc : ∀ D, D < 64 → ∀ d, d < 6 → D / 2 ^ d % 2 = 0 → pc (D + 2 ^ d) = pc D + 1 := by decide +kernel
theorem bt_at : ∀ D, D < 64 → ∀ d, d < 6 → D / 2 ^ d % 2 = 0 → ∀ e, e < 6 → (D + 2 ^ d) / 2 ^ e % 2 = if e = d then 1 else D / 2 ^ e % 2 := by decide +kernel
theorem p64 {n : Nat} (h : n ≤ 6) : 2 ^ n ≤ 64 := Nat.pow_le_pow_right (n := 2) (by decide) h
theorem yhas2 {n0 D d : Nat} {M : Mem} (hD : D < 64) (hd : d < 6) : fX12_has2 n0 (nI D) (nI d) M = some (bI (D / 2 ^ d % 2 = 1), M) := by
  unfold fX12_has2
  by_cases g : D / 2 ^ d % 2 = 1
  · rw [bI_t g]; exact eq_t ((bt_has D hD d hd).mpr g) rfl
  · rw [bI_f g]; exact eq_f (fun z => g ((bt_has D hD d hd).mp z)) rfl
/-- what is due is done: bits and what is kept, doing by doing -/
def fnS (du : Nat → Bool) (m : Nat) (s : Nat × List (Nat × Nat)) : Nat → Nat × List (Nat × Nat)
  | 0 => s
  | d + 1 => if (fnS du m s d).1 / 2 ^ d % 2 = 0 ∧ du d = true then ((fnS du m s d).1 + 2 ^ d, (fnS du m s d).2 ++ [(m, d)]) else fnS du m s d
def sOk (nd : Nat) (s : Nat × List (Nat × Nat)) : Prop := s.1 < 2 ^ nd ∧ s.2.length ≤ pc s.1
theorem fnS_ok {du : Nat → Bool} {m nd : Nat} {s : Nat × List (Nat × Nat)} (hn : nd ≤ 6) (h : sOk nd s) : ∀ d, d ≤ nd → sOk nd (fnS du m s d)
  | 0, _ => h
  | d + 1, hd => by
    have ih := fnS_ok hn h d (by omega) (du := du) (m := m)
    have := p64 hn
    show sOk nd (if _ then _ else _)
    by_cases g : (fnS du m s d).1 / 2 ^ d % 2 = 0 ∧ du d = true
    · rw [if_pos g]
      refine ⟨bt_lt nd (by omega) _ ih.1 d (by omega) g.1, ?_⟩
      show ((fnS du m s d).2 ++ [(m, d)]).length ≤ pc ((fnS du m s d).1 + 2 ^ d)
      have h1 := ih.1
      have h2 := ih.2
      rw [List.length_append, bt_pc _ (by omega) d (by omega) g.1]
      show _ + 1 ≤ _
      omega
    · rw [if_neg g]; exact ih
theorem fnS_len {du : Nat → Bool} {m : Nat} {s : Nat × List (Nat × Nat)} : ∀ d, s.2.length ≤ (fnS du m s d).2.length
  | 0 => Nat.le_refl _
  | d + 1 => by
    have ih := fnS_len (du := du) (m := m) (s := s) d
    show _ ≤ (if _ then _ else _ : Nat × List (Nat × Nat)).2.length
    by_cases g : (fnS du m s d).1 / 2 ^ d % 2 = 0 ∧ du d = true
    · rw [if_pos g]
      show _ ≤ ((fnS du m s d).2 ++ [(m, d)]).length
      rw [List.length_append]
      omega
    · rw [if_neg g]; exact ih
theorem fnS_pre {du : Nat → Bool} {m : Nat} {s : Nat × List (Nat × Nat)} : ∀ d, ∃ K, (fnS du m s d).2 = s.2 ++ K
  | 0 => ⟨[], (List.append_nil _).symm⟩
  | d + 1 => by
    obtain ⟨K, ih⟩ := fnS_pre (du := du) (m := m) (s := s) d
    have e : fnS du m s (d + 1) = if (fnS du m s d).1 / 2 ^ d % 2 = 0 ∧ du d = true then ((fnS du m s d).1 + 2 ^ d, (fnS du m s d).2 ++ [(m, d)]) else fnS du m s d := rfl
    rw [e]
    by_cases g : (fnS du m s d).1 / 2 ^ d % 2 = 0 ∧ du d = true
    · rw [if_pos g]
      exact ⟨K ++ [(m, d)], by show (fnS du m s d).2 ++ [(m, d)] = _; rw [ih, List.append_assoc]⟩
    · rw [if_neg g]; exact ⟨K, ih⟩
/-- what a layer keeps -/
def KpY (v : Nat) (K : List (Nat × Nat)) (M : Mem) : Prop := gA M 32 v = nI K.length ∧ ∀ i p, K[i]? = some p → gA M 33 (80 * v + 2 * i) = nI p.1 ∧ gA M 33 (80 * v + 2 * i + 1) = nI p.2
theorem ap_at {K : List (Nat × Nat)} {x p : Nat × Nat} {i : Nat} (h : (K ++ [x])[i]? = some p) : (i < K.length ∧ K[i]? = some p) ∨ (i = K.length ∧ p = x) := by
  rcases Nat.lt_or_ge i K.length with g | g
  · rw [List.getElem?_append_left g] at h
    exact Or.inl ⟨g, h⟩
  · rw [List.getElem?_append_right g] at h
    have hi : i - K.length = 0 := by
      rcases Nat.eq_zero_or_pos (i - K.length) with z | z
      · exact z
      · rw [List.getElem?_eq_none (by show 1 ≤ _; omega)] at h
        cases h
    rw [hi] at h
    exact Or.inr ⟨by omega, (Option.some.inj h).symm⟩
theorem K_lt {K : List (Nat × Nat)} {p : Nat × Nat} {i : Nat} (h : K[i]? = some p) : i < K.length := (List.getElem?_eq_some_iff.mp h).1
theorem ywrites {n0 v m d : Nat} {K : List (Nat × Nat)} {M : Mem} (hv : v < 22) (hK : KpY v K M) (hl : K.length < 40) (h28 : gA M 28 v = nI m) : ∃ M', fX12_writesDown n0 (nI v) (nI d) M = some M' ∧ KpY v (K ++ [(m, d)]) M' ∧ gA M' 31 v = gA M 31 v ∧ YF (dP v) M M' := by
  have cv : (nI v).toNatClampNeg = v := nI_clamp (by omega)
  have ov : ¬ oob (nI v) 22 := nI_in hv (by decide)
  have ix : (2 : Int32) * ((40 : Int32) * nI v + nI K.length) = nI (80 * v + 2 * K.length) := by
    rw [show (40 : Int32) = nI 40 from rfl, nI_mul, nI_add, show (2 : Int32) = nI 2 from rfl, nI_mul]
    congr 1
    omega
  have cx : (nI (80 * v + 2 * K.length)).toNatClampNeg = 80 * v + 2 * K.length := nI_clamp (by omega)
  have cy : (nI (80 * v + 2 * K.length + 1)).toNatClampNeg = 80 * v + 2 * K.length + 1 := nI_clamp (by omega)
  have a1 : nI (80 * v + 2 * K.length) + 1 = nI (80 * v + 2 * K.length + 1) := nI_add _ 1
  have k1 : nI K.length + 1 = nI (K.length + 1) := nI_add _ 1
  refine ⟨sA (sA (sA M 33 (80 * v + 2 * K.length) (nI m)) 33 (80 * v + 2 * K.length + 1) (nI d)) 32 v (nI (K.length + 1)), ?_, ⟨?_, fun i p h => ?_⟩, ?_, ?_⟩
  · unfold fX12_writesDown
    refine eq_f ov (eq_f ?_ ?_)
    · rw [cv, hK.1]
      exact fun z => by have := (nI_eq (a := K.length) (b := 40) (by omega) (by decide)).mp z; omega
    · unfold fX12_writesDown_59
      simp only [cv, hK.1, ix, h28, bnd, cx, a1, cy]
      refine eq_f ov (eq_f ov (eq_f (nI_in (by omega) (by decide)) (eq_f (nI_in (by omega) (by decide)) (eq_f ov (eq_f ov ?_)))))
      rw [gA_sA_ne (by decide), gA_sA_ne (by decide), hK.1, k1]
  · rw [gA_sA, if_pos rfl, if_pos rfl, List.length_append]
    rfl
  · rw [gA_sA_ne (by decide), gA_sA, if_pos rfl, gA_sA, if_pos rfl, gA_sA, if_pos rfl, gA_sA, if_pos rfl]
    rcases ap_at h with ⟨g, h⟩ | ⟨rfl, rfl⟩
    · rw [if_neg (by omega), if_neg (by omega), if_neg (by omega), if_neg (by omega)]
      exact hK.2 i p h
    · rw [if_neg (by omega), if_pos rfl, if_pos rfl]
      exact ⟨rfl, rfl⟩
  · rw [gA_sA_ne (by decide), gA_sA_ne (by decide), gA_sA_ne (by decide)]
  · exact ((YF.r.a (by unfold dP; omega)).a (by unfold dP; omega)).a (by unfold dP; omega)
def due (T : TP) (pm : Nat → Int32 × Nat) (m : Nat) : Nat → Bool := fun d => decide (T.hF (T.dc d) (pm (T.dc d)).1 (pm (T.dc d)).2 m = T.dh d)
abbrev fdL (n0 : Nat) : Nat → Int32 → Int32 → Int32 → Mem → Option (Int32 × Mem) := loopN (bX12_finishesDoings_4 n0) (fun _ _ _ _ => none)
theorem KpY.fr {v : Nat} {K : List (Nat × Nat)} {P : Nat → Nat → Prop} {M M' : Mem} (h : KpY v K M) (f : YF P M M') (hl : K.length ≤ 40) (hP : ∀ a i, P a i → ¬ dP v a i) : KpY v K M' := ⟨(f.2.2.2.1 32 v (by decide) (fun z => hP _ _ z (by unfold dP; omega))).trans h.1, fun i p g => by
  have := K_lt g
  rw [f.2.2.2.1 33 _ (by decide) (fun z => hP _ _ z (by unfold dP; omega)), f.2.2.2.1 33 _ (by decide) (fun z => hP _ _ z (by unfold dP; omega))]
  exact h.2 i p g⟩
theorem yfd {n0 b v m : Nat} {T : TP} {pm : Nat → Int32 × Nat} {s : Nat × List (Nat × Nat)} (hv : v < 22) (hO : PsO T.nt T.nc pm) (hm : m ≤ 20000) (hs : sOk T.nd s) :
    ∀ w d M, d ≤ T.nd → T.nd < w + d → YT n0 b T M → Ly v T.nc m pm M → gA M 31 v = nI (fnS (due T pm m) m s d).1 → KpY v (fnS (due T pm m) m s d).2 M →
    ∃ M', fdL n0 w (nI v) (nI ((fnS (due T pm m) m s d).2.length - s.2.length)) (nI d) M = some (nI ((fnS (due T pm m) m s T.nd).2.length - s.2.length), M') ∧ gA M' 31 v = nI (fnS (due T pm m) m s T.nd).1 ∧ KpY v (fnS (due T pm m) m s T.nd).2 M' ∧ YF (dP v) M M'
  | 0, d, M, hd, hw, _, _, _, _ => by omega
  | w + 1, d, M, hd, hw, hT, hL, hD, hK => by
    show ∃ M', bX12_finishesDoings_4 n0 (fdL n0 w) (nI v) _ (nI d) M = _ ∧ _
    have hok := hT.2.1
    have h6 := hok.2.2.1
    have h5 := hok.2.1
    have hb := hT.2.2.1
    have h13 := hT.2.2.2.1
    have cb : (nI b).toNatClampNeg = b := nI_clamp (by omega)
    have cv : (nI v).toNatClampNeg = v := nI_clamp (by omega)
    have ov : ¬ oob (nI v) 22 := nI_in hv (by decide)
    have q10 : gA M 10 (gI M 13).toNatClampNeg = nI T.nd := by rw [h13, cb]; exact hT.2.2.2.2.2.2.1
    have o13 : ¬ oob (gI M 13) 2 := by rw [h13]; exact nI_in (by omega) (by decide)
    have sok := fnS_ok (du := due T pm m) (m := m) h6 hs d (by omega)
    have s64 : (fnS (due T pm m) m s d).1 < 64 := Nat.lt_of_lt_of_le sok.1 (p64 h6)
    have slen := sok.2
    have pcl := pc_le (fnS (due T pm m) m s d).1
    have s0 := fnS_len (du := due T pm m) (m := m) (s := s) d
    by_cases g : d = T.nd
    · subst g
      refine ⟨M, ?_, hD, hK, YF.r⟩
      unfold bX12_finishesDoings_4
      exact eq_f o13 (eq_t (by rw [q10]; exact Int32.le_refl _) rfl)
    · have hdn : d < T.nd := by omega
      obtain ⟨dc1, dc2⟩ := hok.2.2.2 d hdn
      have ld := hT.2.2.2.2.2.2.2 d hdn
      have c6 : (nI (6 * b + d)).toNatClampNeg = 6 * b + d := nI_clamp (by omega)
      have o6 : ¬ oob (nI (6 * b + d)) 12 := nI_in (by omega) (by decide)
      have d1 : nI d + 1 = nI (d + 1) := nI_add d 1
      -- head of the step
      have hd0 : ∀ r, (if bI ((fnS (due T pm m) m s d).1 / 2 ^ d % 2 = 1) = 0 then
          (fX12_hour n0 (nI v) (nI (T.dc d)) M).bind fun z46 =>
          if oob (((6 : Int32) * (gI z46.2 13)) + nI d) 12 then none else
          if z46.1 = (gA z46.2 12 (Int32.toNatClampNeg (((6 : Int32) * (gI z46.2 13)) + nI d))) then
            if oob (nI v) 22 then none else
            if oob (nI v) 22 then none else
            bnd (sA z46.2 31 (Int32.toNatClampNeg (nI v)) ((gA z46.2 31 (Int32.toNatClampNeg (nI v))) ||| ((1 : Int32) <<< (nI d &&& 31)))) fun M80 =>
            (fX12_writesDown n0 (nI v) (nI d) M80).bind fun z84 =>
            fX12_finishesDoings_90 n0 (fdL n0 w) (nI v) (nI ((fnS (due T pm m) m s d).2.length - s.2.length) + (1 : Int32)) (nI d) z84
          else
            fX12_finishesDoings_90 n0 (fdL n0 w) (nI v) (nI ((fnS (due T pm m) m s d).2.length - s.2.length)) (nI d) z46.2
        else
          fX12_finishesDoings_90 n0 (fdL n0 w) (nI v) (nI ((fnS (due T pm m) m s d).2.length - s.2.length)) (nI d) M) = r → bX12_finishesDoings_4 n0 (fdL n0 w) (nI v) (nI ((fnS (due T pm m) m s d).2.length - s.2.length)) (nI d) M = r := fun r hr => by
        unfold bX12_finishesDoings_4
        refine eq_f o13 (eq_f (by rw [q10]; exact nI_ge hdn (by omega)) (eq_f ov (eq_b (z := (bI ((fnS (due T pm m) m s d).1 / 2 ^ d % 2 = 1), M)) (by rw [cv, hD]; exact yhas2 s64 (by omega)) ?_)))
        refine Eq.trans ?_ hr
        by_cases g0 : bI ((fnS (due T pm m) m s d).1 / 2 ^ d % 2 = 1) = 0
        · rw [if_pos g0, if_pos g0]
          refine eq_f (by show ¬ oob ((6 : Int32) * gI M 13 + nI d) 12; rw [h13, y6Ix]; exact o6) ?_
          show Option.bind (fX12_hour n0 (nI v) (gA M 11 ((6 : Int32) * gI M 13 + nI d).toNatClampNeg) M) _ = _
          rw [h13, y6Ix, c6, ld.1]
        · rw [if_neg g0, if_neg g0]
      have nb : ¬ (fnS (due T pm m) m s d).1 / 2 ^ d % 2 = 1 ↔ (fnS (due T pm m) m s d).1 / 2 ^ d % 2 = 0 := by omega
      have dn : fnS (due T pm m) m s (d + 1) = if (fnS (due T pm m) m s d).1 / 2 ^ d % 2 = 0 ∧ due T pm m d = true then ((fnS (due T pm m) m s d).1 + 2 ^ d, (fnS (due T pm m) m s d).2 ++ [(m, d)]) else fnS (due T pm m) m s d := rfl
      by_cases g0 : (fnS (due T pm m) m s d).1 / 2 ^ d % 2 = 1
      · have eS : fnS (due T pm m) m s (d + 1) = fnS (due T pm m) m s d := by rw [dn, if_neg (fun z => by omega)]
        obtain ⟨M', r1, r2, r3, r4⟩ := yfd hv hO hm hs w (d + 1) M (by omega) (by omega) hT hL (by rw [eS]; exact hD) (by rw [eS]; exact hK)
        rw [eS] at r1
        refine ⟨M', hd0 _ (eq_f (by rw [bI_t g0]; decide) ?_), r2, r3, r4⟩
        unfold fX12_finishesDoings_90
        rw [d1]
        exact r1
      · have g00 := nb.mp g0
        obtain ⟨_, M1, e1, e2⟩ := yhr hT hv hL hO hm dc1
        have f1 : YF (dP v) M M1 := e2.y
        have i13 : gI M1 13 = nI b := (congrFun e2.2.2.1 13).trans h13
        have T1 := hT.yf f1 dP28
        have L1 : Ly v T.nc m pm M1 := hL.fr (P := fun _ _ => False) e2.y h5 (fun _ _ z => z.elim)
        have D1 : gA M1 31 v = nI (fnS (due T pm m) m s d).1 := by rw [e2.2.2.2.1 31 (by decide)]; exact hD
        have K1 : KpY v (fnS (due T pm m) m s d).2 M1 := hK.fr (P := fun _ _ => False) e2.y (by omega) (fun _ _ z => z.elim)
        have q12 : gA M1 12 ((6 : Int32) * gI M1 13 + nI d).toNatClampNeg = nI (T.dh d) := by rw [i13, y6Ix, c6, e2.2.2.2.1 12 (by decide)]; exact ld.2
        have oo : ¬ oob ((6 : Int32) * gI M1 13 + nI d) 12 := by rw [i13, y6Ix]; exact o6
        have hh := (hT.1 M v (T.dc d) (pm (T.dc d)).1 (pm (T.dc d)).2 m yTw.r (hL.pm h13 hv dc1) ⟨by omega, (hO _ dc1).1, (hO _ dc1).2, hm⟩).1
        by_cases gd : T.hF (T.dc d) (pm (T.dc d)).1 (pm (T.dc d)).2 m = T.dh d
        · have eS : fnS (due T pm m) m s (d + 1) = ((fnS (due T pm m) m s d).1 + 2 ^ d, (fnS (due T pm m) m s d).2 ++ [(m, d)]) := by rw [dn, if_pos ⟨g00, by unfold due; exact decide_eq_true gd⟩]
          have f2 : YF (dP v) M1 (sA M1 31 v (nI ((fnS (due T pm m) m s d).1 + 2 ^ d))) := YF.r.a (by unfold dP; omega)
          have K2 : KpY v (fnS (due T pm m) m s d).2 (sA M1 31 v (nI ((fnS (due T pm m) m s d).1 + 2 ^ d))) := ⟨by rw [gA_sA_ne (by decide)]; exact K1.1, fun i p z => by rw [gA_sA_ne (by decide)]; exact K1.2 i p z⟩
          obtain ⟨M3, u1, u2, u3, u4⟩ := ywrites (n0 := n0) (d := d) hv K2 (by omega) (m := m) (by rw [gA_sA_ne (by decide)]; exact L1.1)
          have f3 := f2.tr u4
          have T3 := T1.yf f3 dP28
          have L3 : Ly v T.nc m pm M3 := L1.fr f3 h5 (fun a i z y => by unfold dP at z; unfold tP at y; omega)
          obtain ⟨M', r1, r2, r3, r4⟩ := yfd hv hO hm hs w (d + 1) M3 (by omega) (by omega) T3 L3 (by rw [eS, u3, gA_sA, if_pos rfl, if_pos rfl]) (by rw [eS]; exact u2)
          refine ⟨M', hd0 _ (eq_t (by rw [bI_f g0]) (eq_b e1 (eq_f oo (eq_t (by rw [q12]; exact congrArg nI gd) (eq_f ov (eq_f ov (eq_e (v' := sA M1 31 v (nI ((fnS (due T pm m) m s d).1 + 2 ^ d))) ?_ (eq_b u1 ?_)))))))), r2, r3, f1.tr (f3.tr r4)⟩
          · show sA M1 31 (nI v).toNatClampNeg (gA M1 31 (nI v).toNatClampNeg ||| _) = _
            rw [cv, D1, bt_or _ s64 d (by omega) g00]
          · unfold fX12_finishesDoings_90
            rw [d1, show nI ((fnS (due T pm m) m s d).2.length - s.2.length) + 1 = nI ((fnS (due T pm m) m s (d + 1)).2.length - s.2.length) by
              rw [show nI ((fnS (due T pm m) m s d).2.length - s.2.length) + 1 = nI ((fnS (due T pm m) m s d).2.length - s.2.length + 1) from nI_add _ 1, eS]
              congr 1
              show _ = ((fnS (due T pm m) m s d).2 ++ [(m, d)]).length - _
              rw [List.length_append]
              show _ = _ + 1 - _
              omega]
            exact r1
        · have eS : fnS (due T pm m) m s (d + 1) = fnS (due T pm m) m s d := by rw [dn, if_neg (fun z => gd (of_decide_eq_true z.2))]
          obtain ⟨M', r1, r2, r3, r4⟩ := yfd hv hO hm hs w (d + 1) M1 (by omega) (by omega) T1 L1 (by rw [eS]; exact D1) (by rw [eS]; exact K1)
          rw [eS] at r1
          refine ⟨M', hd0 _ (eq_t (by rw [bI_f g0]) (eq_b e1 (eq_f oo (eq_f (by rw [q12]; exact fun z => gd ((nI_eq (by omega) (by omega)).mp z)) ?_)))), r2, r3, f1.tr r4⟩
          unfold fX12_finishesDoings_90
          rw [d1]
          exact r1
theorem yfin {n0 b v m : Nat} {T : TP} {pm : Nat → Int32 × Nat} {s : Nat × List (Nat × Nat)} {M : Mem} (hn : 1700 ≤ n0) (hT : YT n0 b T M) (hv : v < 22) (hL : Ly v T.nc m pm M) (hO : PsO T.nt T.nc pm) (hm : m ≤ 20000) (hs : sOk T.nd s) (hD : gA M 31 v = nI s.1) (hK : KpY v s.2 M) :
    ∃ M', fX12_finishesDoings n0 (nI v) M = some (nI ((fnS (due T pm m) m s T.nd).2.length - s.2.length), M') ∧ gA M' 31 v = nI (fnS (due T pm m) m s T.nd).1 ∧ KpY v (fnS (due T pm m) m s T.nd).2 M' ∧ YF (dP v) M M' := by
  have h6 := hT.2.1.2.2.1
  obtain ⟨M', e⟩ := yfd hv hO hm hs n0 0 M (by omega) (by omega) hT hL hD hK
  refine ⟨M', ?_, e.2⟩
  have e1 := e.1
  rw [show (fnS (due T pm m) m s 0).2.length - s.2.length = 0 from Nat.sub_self _] at e1
  exact e1
end
section
/-! A LAYER COPIED BY THE REFERENCE -/
theorem y80Ix (v c : Nat) : (80 : Int32) * nI v + nI c = nI (80 * v + c) := by
  rw [show (80 : Int32) = nI 80 from rfl, nI_mul, nI_add]
abbrev cpL (n0 : Nat) : Nat → Int32 → Int32 → Int32 → Mem → Option Mem := loopN (bX12_copies_91 n0) (fun _ _ _ _ => none)
theorem ycp91 {n0 v u kn : Nat} (hv : v < 22) (hu : u < 22) (hvu : v ≠ u) (hk : kn ≤ 40) : ∀ w i M, i ≤ 2 * kn → 2 * kn < w + i → gA M 32 u = nI kn → ∃ M', cpL n0 w (nI v) (nI u) (nI i) M = some M' ∧ (∀ j, i ≤ j → j < 2 * kn → gA M' 33 (80 * v + j) = gA M 33 (80 * u + j)) ∧ YF (fun a j => a = 33 ∧ 80 * v + i ≤ j ∧ j < 80 * v + 80) M M'
  | 0, i, M, hi, hw, _ => by omega
  | w + 1, i, M, hi, hw, h32 => by
    show ∃ M', bX12_copies_91 n0 (cpL n0 w) (nI v) (nI u) (nI i) M = _ ∧ _
    have cu : (nI u).toNatClampNeg = u := nI_clamp (by omega)
    have ou : ¬ oob (nI u) 22 := nI_in hu (by decide)
    have e2 : (2 : Int32) * gA M 32 (nI u).toNatClampNeg = nI (2 * kn) := by rw [cu, h32, show (2 : Int32) = nI 2 from rfl, nI_mul]
    by_cases g : i = 2 * kn
    · refine ⟨M, ?_, fun j h1 h2 => by omega, YF.r⟩
      unfold bX12_copies_91
      exact eq_f ou (eq_t (by rw [e2, g]; exact Int32.le_refl _) rfl)
    · have ca : (nI (80 * u + i)).toNatClampNeg = 80 * u + i := nI_clamp (by omega)
      have cb : (nI (80 * v + i)).toNatClampNeg = 80 * v + i := nI_clamp (by omega)
      have f1 : YF (fun a j => a = 33 ∧ 80 * v + i ≤ j ∧ j < 80 * v + 80) M (sA M 33 (80 * v + i) (gA M 33 (80 * u + i))) := YF.r.a ⟨rfl, by omega, by omega⟩
      obtain ⟨M', r1, r2, r3⟩ := ycp91 hv hu hvu hk w (i + 1) (sA M 33 (80 * v + i) (gA M 33 (80 * u + i))) (by omega) (by omega) (by rw [gA_sA_ne (by decide)]; exact h32)
      refine ⟨M', ?_, fun j h1 h2 => ?_, f1.tr (r3.wk (fun a j z => ⟨z.1, by omega, z.2.2⟩))⟩
      · unfold bX12_copies_91
        refine eq_f ou (eq_f (by rw [e2]; exact nI_ge (by omega) (by omega)) ?_)
        simp only [y80Ix, ca, cb]
        refine eq_f (nI_in (by omega) (by decide)) (eq_f (nI_in (by omega) (by decide)) (eq_n ?_))
        rw [show nI i + 1 = nI (i + 1) from nI_add i 1]
        exact r1
      · by_cases h : j = i
        · rw [h, r3.2.2.2.1 33 (80 * v + i) (by decide) (fun z => by have := z.2.1; omega), gA_sA, if_pos rfl, if_pos rfl]
        · rw [r2 j (by omega) h2, gA_sA, if_pos rfl, if_neg (by omega)]
abbrev cqL (n0 : Nat) : Nat → Int32 → Int32 → Int32 → Mem → Option Mem := loopN (bX12_copies_26 n0) (fun _ _ _ _ => none)
theorem ycp26 {n0 v u kn : Nat} (hn : 1700 ≤ n0) (hv : v < 22) (hu : u < 22) (hvu : v ≠ u) (hk : kn ≤ 40) : ∀ w i M, i ≤ 5 → 5 < w + i → gA M 32 u = nI kn → ∃ M', cqL n0 w (nI v) (nI u) (nI i) M = some M' ∧ (∀ j, i ≤ j → j < 5 → gA M' 29 (5 * v + j) = gA M 29 (5 * u + j) ∧ gA M' 30 (5 * v + j) = gA M 30 (5 * u + j)) ∧ gA M' 32 v = nI kn ∧ (∀ j, j < 2 * kn → gA M' 33 (80 * v + j) = gA M 33 (80 * u + j)) ∧ YF (fun a j => ((a = 29 ∨ a = 30) ∧ 5 * v + i ≤ j ∧ j < 5 * v + 5) ∨ (a = 32 ∧ j = v) ∨ (a = 33 ∧ 80 * v ≤ j ∧ j < 80 * v + 80)) M M'
  | 0, i, M, hi, hw, _ => by omega
  | w + 1, i, M, hi, hw, h32 => by
    show ∃ M', bX12_copies_26 n0 (cqL n0 w) (nI v) (nI u) (nI i) M = _ ∧ _
    have cu : (nI u).toNatClampNeg = u := nI_clamp (by omega)
    have cv : (nI v).toNatClampNeg = v := nI_clamp (by omega)
    by_cases g : i = 5
    · obtain ⟨M', r1, r2, r3⟩ := ycp91 (n0 := n0) hv hu hvu hk n0 0 (sA M 32 v (nI kn)) (by omega) (by omega) (by rw [gA_sA, if_pos rfl, if_neg (fun z => hvu z.symm)]; exact h32)
      refine ⟨M', ?_, fun j h1 h2 => by omega, ?_, fun j hj => ?_, (YF.r.a (Or.inr (Or.inl ⟨rfl, rfl⟩))).tr (r3.wk (fun a j z => Or.inr (Or.inr ⟨z.1, by omega, z.2.2⟩)))⟩
      · unfold bX12_copies_26
        refine eq_t (by rw [g]; decide) ?_
        simp only [cu, cv, h32]
        exact eq_f (nI_in hu (by decide)) (eq_f (nI_in hv (by decide)) (eq_n r1))
      · rw [r3.2.2.2.1 32 v (by decide) (fun z => by have := z.1; omega), gA_sA, if_pos rfl, if_pos rfl]
      · rw [r2 j (by omega) hj, gA_sA_ne (by decide)]
    · have ca : (nI (5 * u + i)).toNatClampNeg = 5 * u + i := nI_clamp (by omega)
      have cb : (nI (5 * v + i)).toNatClampNeg = 5 * v + i := nI_clamp (by omega)
      have oa : ¬ oob (nI (5 * u + i)) 110 := nI_in (by omega) (by decide)
      have ob : ¬ oob (nI (5 * v + i)) 110 := nI_in (by omega) (by decide)
      have hM1 : ∃ M1, M1 = sA (sA M 29 (5 * v + i) (gA M 29 (5 * u + i))) 30 (5 * v + i) (gA M 30 (5 * u + i)) := ⟨_, rfl⟩
      obtain ⟨M1, eM⟩ := hM1
      have f1 : YF (fun a j => ((a = 29 ∨ a = 30) ∧ 5 * v + i ≤ j ∧ j < 5 * v + 5) ∨ (a = 32 ∧ j = v) ∨ (a = 33 ∧ 80 * v ≤ j ∧ j < 80 * v + 80)) M M1 := by
        rw [eM]
        exact (YF.r.a (Or.inl ⟨Or.inl rfl, by omega, by omega⟩)).a (Or.inl ⟨Or.inr rfl, by omega, by omega⟩)
      obtain ⟨M', r1, r2, r3, r4, r5⟩ := ycp26 hn hv hu hvu hk w (i + 1) M1 (by omega) (by omega) (by rw [eM, gA_sA_ne (by decide), gA_sA_ne (by decide)]; exact h32)
      refine ⟨M', ?_, fun j h1 h2 => ?_, r3, fun j hj => ?_, f1.tr (r5.wk (fun a j z => by omega))⟩
      · unfold bX12_copies_26
        refine eq_f (fun z => by have := (nI_leI (a := 5) (b := i) (by decide) (by omega)).mp z; omega) ?_
        simp only [yIx, ca, cb]
        refine eq_f oa (eq_f ob (eq_n (eq_f oa (eq_f ob (eq_e (v' := M1) (by rw [eM, gA_sA_ne (by decide)]) ?_)))))
        rw [show nI i + 1 = nI (i + 1) from nI_add i 1]
        exact r1
      · by_cases h : j = i
        · rw [h, r5.2.2.2.1 29 (5 * v + i) (by decide) (fun z => by omega), r5.2.2.2.1 30 (5 * v + i) (by decide) (fun z => by omega), eM]
          exact ⟨by rw [gA_sA_ne (by decide), gA_sA, if_pos rfl, if_pos rfl], by rw [gA_sA, if_pos rfl, if_pos rfl]⟩
        · obtain ⟨k1, k2⟩ := r2 j (by omega) h2
          rw [k1, k2, eM]
          exact ⟨by rw [gA_sA_ne (by decide), gA_sA, if_pos rfl, if_neg (by omega)], by rw [gA_sA, if_pos rfl, if_neg (by omega), gA_sA_ne (by decide)]⟩
      · rw [r4 j hj, eM, gA_sA_ne (by decide), gA_sA_ne (by decide)]
theorem ycopy {n0 v u kn : Nat} {M : Mem} (hn : 1700 ≤ n0) (hv : v < 22) (hu : u < 22) (hvu : v ≠ u) (hk : kn ≤ 40) (h32 : gA M 32 u = nI kn) : ∃ M', fX12_copies n0 (nI v) (nI u) M = some M' ∧ gA M' 28 v = gA M 28 u ∧ gA M' 31 v = gA M 31 u ∧ (∀ j, j < 5 → gA M' 29 (5 * v + j) = gA M 29 (5 * u + j) ∧ gA M' 30 (5 * v + j) = gA M 30 (5 * u + j)) ∧ gA M' 32 v = nI kn ∧ (∀ j, j < 2 * kn → gA M' 33 (80 * v + j) = gA M 33 (80 * u + j)) ∧ YF (lP v) M M' := by
  have cu : (nI u).toNatClampNeg = u := nI_clamp (by omega)
  have cv : (nI v).toNatClampNeg = v := nI_clamp (by omega)
  have ou : ¬ oob (nI u) 22 := nI_in hu (by decide)
  have ov : ¬ oob (nI v) 22 := nI_in hv (by decide)
  have hM1 : ∃ M1, M1 = sA (sA M 28 v (gA M 28 u)) 31 v (gA M 31 u) := ⟨_, rfl⟩
  obtain ⟨M1, eM⟩ := hM1
  have f1 : YF (lP v) M M1 := by
    rw [eM]
    exact (YF.r.a (by unfold lP tP dP; omega)).a (by unfold lP tP dP; omega)
  obtain ⟨M', r1, r2, r3, r4, r5⟩ := ycp26 (n0 := n0) hn hv hu hvu hk n0 0 M1 (by omega) (by omega) (by rw [eM, gA_sA_ne (by decide), gA_sA_ne (by decide)]; exact h32)
  refine ⟨M', ?_, ?_, ?_, fun j hj => ?_, r3, fun j hj => ?_, f1.tr (r5.wk (fun a j z => by unfold lP tP dP; omega))⟩
  · unfold fX12_copies
    simp only [cu, cv]
    exact eq_f ou (eq_f ov (eq_n (eq_f ou (eq_f ov (eq_e (v' := M1) (by rw [eM, gA_sA_ne (by decide)]) r1)))))
  · rw [r5.2.2.2.1 28 v (by decide) (fun z => by omega), eM, gA_sA_ne (by decide), gA_sA, if_pos rfl, if_pos rfl]
  · rw [r5.2.2.2.1 31 v (by decide) (fun z => by omega), eM, gA_sA, if_pos rfl, if_pos rfl]
  · obtain ⟨k1, k2⟩ := r2 j (by omega) hj
    rw [k1, k2, eM, gA_sA_ne (by decide), gA_sA_ne (by decide), gA_sA_ne (by decide), gA_sA_ne (by decide)]
    exact ⟨rfl, rfl⟩
  · rw [r4 j hj, eM, gA_sA_ne (by decide), gA_sA_ne (by decide)]
/-- the whole of a layer: minute, palms, bits, kept -/
def LyD (v nc m : Nat) (pm : Nat → Int32 × Nat) (s : Nat × List (Nat × Nat)) (M : Mem) : Prop := Ly v nc m pm M ∧ gA M 31 v = nI s.1 ∧ KpY v s.2 M
theorem ycopyD {n0 v u nc m : Nat} {pm : Nat → Int32 × Nat} {s : Nat × List (Nat × Nat)} {M : Mem} (hn : 1700 ≤ n0) (hv : v < 22) (hu : u < 22) (hvu : v ≠ u) (hc : nc ≤ 5) (hk : s.2.length ≤ 6) (h : LyD u nc m pm s M) : ∃ M', fX12_copies n0 (nI v) (nI u) M = some M' ∧ LyD v nc m pm s M' ∧ YF (lP v) M M' := by
  obtain ⟨M', r1, r2, r3, r4, r5, r6, r7⟩ := ycopy (n0 := n0) (kn := s.2.length) hn hv hu hvu (by omega) h.2.2.1
  refine ⟨M', r1, ⟨⟨r2.trans h.1.1, fun c hc2 => ?_⟩, r3.trans h.2.1, r5, fun i p hp => ?_⟩, r7⟩
  · rw [(r4 c (by omega)).1, (r4 c (by omega)).2]
    exact h.1.2 c hc2
  · have := K_lt hp
    rw [r6 (2 * i) (by omega), Nat.add_assoc, r6 (2 * i + 1) (by omega), ← Nat.add_assoc]
    exact h.2.2.2 i p hp
theorem LyD.fr {v nc m : Nat} {pm : Nat → Int32 × Nat} {s : Nat × List (Nat × Nat)} {P : Nat → Nat → Prop} {M M' : Mem} (h : LyD v nc m pm s M) (f : YF P M M') (hc : nc ≤ 5) (hk : s.2.length ≤ 40) (hP : ∀ a i, P a i → ¬ lP v a i) : LyD v nc m pm s M' :=
  ⟨h.1.fr f hc (fun a i z y => hP a i z (Or.inl y)), (f.2.2.2.1 31 v (by decide) (fun z => hP _ _ z (by unfold lP dP; omega))).trans h.2.1, h.2.2.fr f hk (fun a i z y => hP a i z (Or.inr y))⟩
/-- a minute of a layer, doings and all -/
def nxP (T : TP) (m : Nat) (pm : Nat → Int32 × Nat) : Nat → Int32 × Nat := fun j => tk T.gF j (m + 1) (pm j)
def nxS (T : TP) (m : Nat) (pm : Nat → Int32 × Nat) (s : Nat × List (Nat × Nat)) : Nat × List (Nat × Nat) := fnS (due T (nxP T m pm) (m + 1)) (m + 1) s T.nd
theorem nxP_ok {T : TP} {m : Nat} {pm : Nat → Int32 × Nat} (h : PsO T.nt T.nc pm) : PsO T.nt T.nc (nxP T m pm) := fun c hc => tk_ok (h c hc)
theorem sOk.l {nd : Nat} {s : Nat × List (Nat × Nat)} (h : sOk nd s) : s.2.length ≤ 6 := Nat.le_trans h.2 (pc_le _)
theorem ytickD {n0 b v m : Nat} {T : TP} {pm : Nat → Int32 × Nat} {s : Nat × List (Nat × Nat)} {M : Mem} (hn : 1700 ≤ n0) (hT : YT n0 b T M) (hv : v < 22) (h : LyD v T.nc m pm s M) (hO : PsO T.nt T.nc pm) (hs : sOk T.nd s) (hm : m < 20000) : ∃ M', fX12_ticks n0 (nI v) M = some M' ∧ LyD v T.nc (m + 1) (nxP T m pm) s M' ∧ YF (lP v) M M' := by
  obtain ⟨M', e1, e2, e3⟩ := yticks hn hT hv h.1 hO hm
  have hl := hs.l
  exact ⟨M', e1, ⟨e2, (e3.2.2.2.1 31 v (by decide) (fun z => by unfold tP at z; omega)).trans h.2.1, h.2.2.fr e3 (by omega) (fun a i z y => by unfold tP at z; unfold dP at y; omega)⟩, e3.wk (fun a i z => Or.inl z)⟩
theorem yfinD {n0 b v m : Nat} {T : TP} {pm : Nat → Int32 × Nat} {s : Nat × List (Nat × Nat)} {M : Mem} (hn : 1700 ≤ n0) (hT : YT n0 b T M) (hv : v < 22) (h : LyD v T.nc m pm s M) (hO : PsO T.nt T.nc pm) (hs : sOk T.nd s) (hm : m ≤ 20000) : ∃ M', fX12_finishesDoings n0 (nI v) M = some (nI ((fnS (due T pm m) m s T.nd).2.length - s.2.length), M') ∧ LyD v T.nc m pm (fnS (due T pm m) m s T.nd) M' ∧ YF (lP v) M M' := by
  obtain ⟨M', e1, e2, e3, e4⟩ := yfin hn hT hv h.1 hO hm hs h.2.1 h.2.2
  exact ⟨M', e1, ⟨h.1.fr e4 hT.2.1.2.1 (fun a i z y => by unfold dP at z; unfold tP at y; omega), e2, e3⟩, e4.wk (fun a i z => Or.inr z)⟩
theorem ypassD {n0 b v m : Nat} {T : TP} {pm : Nat → Int32 × Nat} {s : Nat × List (Nat × Nat)} {M : Mem} (hn : 1700 ≤ n0) (hT : YT n0 b T M) (hv : v < 22) (h : LyD v T.nc m pm s M) (hO : PsO T.nt T.nc pm) (hs : sOk T.nd s) (hm : m < 20000) : ∃ M', fX12_passes n0 (nI v) M = some (nI ((nxS T m pm s).2.length - s.2.length), M') ∧ LyD v T.nc (m + 1) (nxP T m pm) (nxS T m pm s) M' ∧ sOk T.nd (nxS T m pm s) ∧ YF (lP v) M M' := by
  obtain ⟨M1, e1, e2, e3⟩ := ytickD hn hT hv h hO hs hm
  obtain ⟨M2, g1, g2, g3⟩ := yfinD hn (hT.yf e3 lP28) hv e2 (nxP_ok hO) hs (by omega)
  refine ⟨M2, ?_, g2, fnS_ok hT.2.1.2.2.1 hs _ (Nat.le_refl _), e3.tr g3⟩
  unfold fX12_passes
  exact eq_b e1 (eq_b g1 rfl)
end
section
/-! THE STATE OF THE CLASS: a minute, what is due -/
def KpX (K : List (Nat × Nat)) (M : Mem) : Prop := gI M 1285 = nI K.length ∧ ∀ i p, K[i]? = some p → gA M 14 i = nI p.1 ∧ gA M 15 i = nI p.2
/-- minute, palms, bits, kept -/
def PlX (nc : Nat) (pm : Nat → Int32 × Nat) (M : Mem) : Prop := ∀ c, c < nc → gA M 11 c = (pm c).1 ∧ gA M 12 c = nI (pm c).2
def DnX (nd D : Nat) (M : Mem) : Prop := ∀ d, d < nd → gA M 13 d = nI (D / 2 ^ d % 2)
def SX (q nc nd m : Nat) (pm : Nat → Int32 × Nat) (s : Nat × List (Nat × Nat)) (M : Mem) : Prop := gR M 896 = q ∧ gR M 1280 = q ∧ gI M 1281 = nI m ∧ PlX nc pm M ∧ DnX nd s.1 M ∧ KpX s.2 M
/-- what the class may change beside ints I and arrays A -/
def XG (I A : Nat → Prop) (M M' : Mem) : Prop := gR M' = gR M ∧ gL M' = gL M ∧ gB M' = gB M ∧ (∀ a, ¬ (a = 8 ∨ a = 9 ∨ A a) → gA M' a = gA M a) ∧ ∀ k, ¬ ((897 ≤ k ∧ k ≤ 900) ∨ k = 903 ∨ I k) → gI M' k = gI M k
theorem XG.r {I A : Nat → Prop} {M : Mem} : XG I A M M := ⟨rfl, rfl, rfl, fun _ _ => rfl, fun _ _ => rfl⟩
theorem XG.tr {I A : Nat → Prop} {M M' M2 : Mem} (h : XG I A M M') (g : XG I A M' M2) : XG I A M M2 := ⟨g.1.trans h.1, g.2.1.trans h.2.1, g.2.2.1.trans h.2.2.1, fun a z => (g.2.2.2.1 a z).trans (h.2.2.2.1 a z), fun a z => (g.2.2.2.2 a z).trans (h.2.2.2.2 a z)⟩
theorem XG.wk {I I' A A' : Nat → Prop} {M M' : Mem} (h : XG I A M M') (h1 : ∀ k, I k → I' k) (h2 : ∀ a, A a → A' a) : XG I' A' M M' := ⟨h.1, h.2.1, h.2.2.1, fun a z => h.2.2.2.1 a (fun e => z (by rcases e with e | e | e; exact Or.inl e; exact Or.inr (Or.inl e); exact Or.inr (Or.inr (h2 a e)))), fun a z => h.2.2.2.2 a (fun e => z (by rcases e with e | e | e; exact Or.inl e; exact Or.inr (Or.inl e); exact Or.inr (Or.inr (h1 a e))))⟩
theorem XF.g {I A : Nat → Prop} {M M' : Mem} (h : XF A M M') : XG I A M M' := ⟨h.1, h.2.1, h.2.2.1, h.2.2.2.1, fun k z => h.2.2.2.2 k (fun e => z (by omega))⟩
theorem XG.i {I A : Nat → Prop} {M M' : Mem} {k : Nat} {v : Int32} (h : XG I A M M') (hk : I k) : XG I A M (sI M' k v) := ⟨h.1, h.2.1, h.2.2.1, h.2.2.2.1, fun j z => by rw [gI_ne (fun e => z (by rw [e]; exact Or.inr (Or.inr hk)))]; exact h.2.2.2.2 j z⟩
theorem XG.a {I A : Nat → Prop} {M M' : Mem} {a i : Nat} {v : Int32} (h : XG I A M M') (hk : A a) : XG I A M (sA M' a i v) := ⟨h.1, h.2.1, h.2.2.1, fun j z => by rw [gA_sA_ne (fun e => z (by rw [e]; exact Or.inr (Or.inr hk)))]; exact h.2.2.2.1 j z, h.2.2.2.2⟩
theorem XG.tw {I A : Nat → Prop} {M M' : Mem} {q : Nat} (h : XG I A M M') (hq : q = 31 ∨ q = 47) (hI : ∀ k, I k → k < 3968) (hA : ∀ a, A a → a < 31 ∨ 63 ≤ a) : xTw q M M' := ⟨fun j _ _ => h.2.2.2.2 j (fun e => by
  rcases e with e | e | e
  · omega
  · omega
  · have := hI j e; omega), fun a h1 h2 => h.2.2.2.1 a (fun e => by
  rcases e with e | e | e
  · omega
  · omega
  · have := hA a e; omega)⟩
def stI (k : Nat) : Prop := k = 1281 ∨ k = 1285
def stA (a : Nat) : Prop := 11 ≤ a ∧ a ≤ 15
theorem XT.st {n0 q : Nat} {T : TP} {M M' : Mem} (h : XT n0 q T M) (t : XG stI stA M M') : XT n0 q T M' := h.tw (t.tw h.1.1 (fun k z => by unfold stI at z; omega) (fun a z => by unfold stA at z; omega))
theorem SX.fr {q nc nd m : Nat} {pm : Nat → Int32 × Nat} {s : Nat × List (Nat × Nat)} {A : Nat → Prop} {M M' : Mem} (h : SX q nc nd m pm s M) (f : XF A M M') (hA : ∀ a, A a → ¬ stA a) : SX q nc nd m pm s M' := by
  have g : ∀ a, 11 ≤ a → a ≤ 15 → gA M' a = gA M a := fun a h1 h2 => f.2.2.2.1 a (fun e => by
    rcases e with e | e | e
    · omega
    · omega
    · exact hA a e ⟨h1, h2⟩)
  refine ⟨by rw [f.1]; exact h.1, by rw [f.1]; exact h.2.1, (f.2.2.2.2 1281 (by decide)).trans h.2.2.1, fun c hc => ?_, fun d hd => ?_, (f.2.2.2.2 1285 (by decide)).trans h.2.2.2.2.2.1, fun i p hp => ?_⟩
  · rw [g 11 (by decide) (by decide), g 12 (by decide) (by decide)]; exact h.2.2.2.1 c hc
  · rw [g 13 (by decide) (by decide)]; exact h.2.2.2.2.1 d hd
  · rw [g 14 (by decide) (by decide), g 15 (by decide) (by decide)]; exact h.2.2.2.2.2.2 i p hp
theorem xdue {n0 q m d : Nat} {T : TP} {pm : Nat → Int32 × Nat} {s : Nat × List (Nat × Nat)} {M : Mem} (hT : XT n0 q T M) (hS : SX q T.nc T.nd m pm s M) (hO : PsO T.nt T.nc pm) (hm : m ≤ 20000) (hd : d < T.nd) : ∃ M', fX6_isDue n0 (nI d) M = some (bI (due T pm m d = true), M') ∧ XF noN M M' := by
  obtain ⟨t1, ok, t3, t4, t5⟩ := hT
  obtain ⟨s0, s1, s2, s3, s4, s5⟩ := hS
  have h6 := ok.2.2.1
  have h5 := ok.2.1
  obtain ⟨d1, d2⟩ := ok.2.2.2 d hd
  have cd : (nI d).toNatClampNeg = d := nI_clamp (by omega)
  have cc : (nI (T.dc d)).toNatClampNeg = T.dc d := nI_clamp (by omega)
  have od : ¬ oob (nI d) 6 := nI_in (by omega) (by decide)
  have oc : ¬ oob (nI (T.dc d)) 5 := nI_in (by omega) (by decide)
  have p1 : PmX q (T.dc d) (pm (T.dc d)).1 (pm (T.dc d)).2 m (hld M (nI (T.dc d)) (pm (T.dc d)).1 (nI (pm (T.dc d)).2) (nI m)) := hld_p s0
  have f1 : XF noN M (hld M (nI (T.dc d)) (pm (T.dc d)).1 (nI (pm (T.dc d)).2) (nI m)) := hld_f
  have ok1 := hO _ d1
  obtain ⟨hh, M2, e1, e2, e3⟩ := xhr (t1.xf f1 (fun _ z => z.elim)) p1 ⟨by omega, ok1.1, ok1.2, hm⟩
  have f2 := f1.tr e3
  have q11 : gA M2 (gR M2 1280 + 11) d = nI (T.dh d) := by
    rw [f2.1, s1, f2.2.2.2.1 _ (fun z => by rcases z with z | z | z; rcases t1.1 with g | g <;> omega; rcases t1.1 with g | g <;> omega; exact z)]
    exact (t5 d hd).2
  unfold fX6_isDue
  refine ⟨M2, ?_, f2⟩
  refine eq_f od (eq_e (v' := nI (T.dc d)) (by rw [cd, s1]; exact (t5 d hd).1) (eq_f oc (eq_f oc (eq_b (z := hld M (nI (T.dc d)) (pm (T.dc d)).1 (nI (pm (T.dc d)).2) (nI m)) ?_ (eq_b e1 (eq_f od ?_))))))
  · rw [cc, (s3 _ d1).1, (s3 _ d1).2, s2]
    exact xhold
  · by_cases g : T.hF (T.dc d) (pm (T.dc d)).1 (pm (T.dc d)).2 m = T.dh d
    · rw [bI_t (by unfold due; exact decide_eq_true g)]
      exact eq_t (by rw [cd, q11]; exact congrArg nI g) rfl
    · rw [bI_f (by unfold due; exact fun z => g (of_decide_eq_true z))]
      exact eq_f (by rw [cd, q11]; exact fun z => g ((nI_eq (by omega) (by omega)).mp z)) rfl
theorem xkeep {n0 m d : Nat} {K : List (Nat × Nat)} {M : Mem} (hK : KpX K M) (hl : K.length < 6) (h28 : gI M 1281 = nI m) : ∃ M', fX6_keep n0 (nI d) M = some M' ∧ KpX (K ++ [(m, d)]) M' ∧ gA M' 13 = gA M 13 ∧ gA M' 11 = gA M 11 ∧ gA M' 12 = gA M 12 ∧ gI M' 1281 = gI M 1281 ∧ XG stI stA M M' := by
  have ck : (nI K.length).toNatClampNeg = K.length := nI_clamp (by omega)
  have ok : ¬ oob (nI K.length) 6 := nI_in hl (by decide)
  have k1 : nI K.length + 1 = nI (K.length + 1) := nI_add _ 1
  refine ⟨sI (sA (sA M 14 K.length (nI m)) 15 K.length (nI d)) 1285 (nI (K.length + 1)), ?_, ⟨?_, fun i p h => ?_⟩, rfl, rfl, rfl, rfl, ?_⟩
  · unfold fX6_keep
    refine eq_f (by rw [hK.1]; exact nI_ge hl (by decide)) ?_
    simp only [bnd, gI_sA, hK.1, ck, h28, k1]
    exact eq_f ok (eq_f ok rfl)
  · rw [gI_at, List.length_append]
    rfl
  · show gA (sA (sA M 14 K.length (nI m)) 15 K.length (nI d)) 14 i = _ ∧ gA (sA (sA M 14 K.length (nI m)) 15 K.length (nI d)) 15 i = _
    rw [gA_sA_ne (by decide), gA_sA, if_pos rfl, gA_sA, if_pos rfl, gA_sA_ne (by decide)]
    rcases ap_at h with ⟨g, h⟩ | ⟨rfl, rfl⟩
    · rw [if_neg (by omega), if_neg (by omega)]
      exact hK.2 i p h
    · rw [if_pos rfl, if_pos rfl]
      exact ⟨rfl, rfl⟩
  · exact ((XG.r.a (by unfold stA; omega)).a (by unfold stA; omega)).i (by unfold stI; omega)
abbrev xdL (n0 : Nat) : Nat → Int32 → Int32 → Mem → Option (Int32 × Mem) := loopN (bX6_doWhatIsDue_4 n0) (fun _ _ _ => none)
theorem xfd {n0 q m : Nat} {T : TP} {pm : Nat → Int32 × Nat} {s : Nat × List (Nat × Nat)} (hO : PsO T.nt T.nc pm) (hm : m ≤ 20000) (hs : sOk T.nd s) :
    ∀ w d M, d ≤ T.nd → T.nd < w + d → XT n0 q T M → SX q T.nc T.nd m pm (fnS (due T pm m) m s d) M →
    ∃ M', xdL n0 w (nI ((fnS (due T pm m) m s d).2.length - s.2.length)) (nI d) M = some (nI ((fnS (due T pm m) m s T.nd).2.length - s.2.length), M') ∧ SX q T.nc T.nd m pm (fnS (due T pm m) m s T.nd) M' ∧ XG stI stA M M'
  | 0, d, M, hd, hw, _, _ => by omega
  | w + 1, d, M, hd, hw, hT, hS => by
    show ∃ M', bX6_doWhatIsDue_4 n0 (xdL n0 w) _ (nI d) M = _ ∧ _
    have hok := hT.2.1
    have h6 := hok.2.2.1
    have h5 := hok.2.1
    have q12 : gI M (128 * gR M 1280 + 12) = nI T.nd := by rw [hS.2.1]; exact hT.2.2.2.1
    have sok := fnS_ok (du := due T pm m) (m := m) h6 hs d (by omega)
    have s64 : (fnS (due T pm m) m s d).1 < 64 := Nat.lt_of_lt_of_le sok.1 (p64 h6)
    have slen := sok.2
    have s0 := fnS_len (du := due T pm m) (m := m) (s := s) d
    by_cases g : d = T.nd
    · subst g
      refine ⟨M, ?_, hS, XG.r⟩
      unfold bX6_doWhatIsDue_4
      exact eq_t (by rw [q12]; exact Int32.le_refl _) rfl
    · have hdn : d < T.nd := by omega
      have cd : (nI d).toNatClampNeg = d := nI_clamp (by omega)
      have od : ¬ oob (nI d) 6 := nI_in (by omega) (by decide)
      have d1 : nI d + 1 = nI (d + 1) := nI_add d 1
      have a13 := hS.2.2.2.2.1 d hdn
      have st : ¬ gI M (128 * gR M 1280 + 12) ≤ nI d := by rw [q12]; exact nI_ge hdn (by omega)
      have dn : fnS (due T pm m) m s (d + 1) = if (fnS (due T pm m) m s d).1 / 2 ^ d % 2 = 0 ∧ due T pm m d = true then ((fnS (due T pm m) m s d).1 + 2 ^ d, (fnS (due T pm m) m s d).2 ++ [(m, d)]) else fnS (due T pm m) m s d := rfl
      by_cases g0 : (fnS (due T pm m) m s d).1 / 2 ^ d % 2 = 0
      · obtain ⟨M1, e1, e2⟩ := xdue hT hS hO hm hdn
        have S1 := hS.fr e2 (fun _ z => z.elim)
        have T1 := hT.xf e2 (fun _ z => z.elim)
        have z13 : gA M 13 (nI d).toNatClampNeg = 0 := by rw [cd, a13, g0]; rfl
        by_cases gd : due T pm m d = true
        · have eS : fnS (due T pm m) m s (d + 1) = ((fnS (due T pm m) m s d).1 + 2 ^ d, (fnS (due T pm m) m s d).2 ++ [(m, d)]) := by rw [dn, if_pos ⟨g0, gd⟩]
          have pcl := pc_le ((fnS (due T pm m) m s d).1 + 2 ^ d)
          have pc1 := bt_pc _ s64 d (by omega) g0
          obtain ⟨M3, u1, u2, u3, u4, u5, u6, u7⟩ := xkeep (n0 := n0) (m := m) (d := d) (K := (fnS (due T pm m) m s d).2) (M := sA M1 13 d 1) ⟨S1.2.2.2.2.2.1, fun i p z => by rw [gA_sA_ne (by decide), gA_sA_ne (by decide)]; exact S1.2.2.2.2.2.2 i p z⟩ (by omega) S1.2.2.1
          have f2 : XG stI stA M1 M3 := (XG.r.a (by unfold stA; omega)).tr u7
          have S3 : SX q T.nc T.nd m pm (fnS (due T pm m) m s (d + 1)) M3 := by
            rw [eS]
            refine ⟨by rw [f2.1]; exact S1.1, by rw [f2.1]; exact S1.2.1, u6.trans S1.2.2.1, fun c hc => ?_, fun e he => ?_, u2⟩
            · rw [u4, u5, gA_sA_ne (by decide), gA_sA_ne (by decide)]; exact S1.2.2.2.1 c hc
            · show gA M3 13 e = nI (((fnS (due T pm m) m s d).1 + 2 ^ d) / 2 ^ e % 2)
              rw [u3, gA_sA, if_pos rfl, bt_at _ s64 d (by omega) g0 e (by omega)]
              by_cases h : e = d
              · rw [if_pos h, if_pos h]; rfl
              · rw [if_neg h, if_neg h]; exact S1.2.2.2.2.1 e he
          obtain ⟨M', r1, r2, r3⟩ := xfd hO hm hs w (d + 1) M3 (by omega) (by omega) (T1.st f2) S3
          refine ⟨M', ?_, r2, e2.n.g.tr (f2.tr r3)⟩
          unfold bX6_doWhatIsDue_4
          refine eq_f st (eq_f od (eq_t z13 (eq_b e1 (eq_f (show ¬ bI (due T pm m d = true) = 0 by rw [bI_t gd]; decide) (eq_f od (eq_e (v' := sA M1 13 d 1) ?_ (eq_b u1 ?_)))))))
          · show sA M1 13 (nI d).toNatClampNeg 1 = _
            rw [cd]
          · unfold fX6_doWhatIsDue_48
            rw [d1, show nI ((fnS (due T pm m) m s d).2.length - s.2.length) + 1 = nI ((fnS (due T pm m) m s (d + 1)).2.length - s.2.length) by
              rw [show nI ((fnS (due T pm m) m s d).2.length - s.2.length) + 1 = nI ((fnS (due T pm m) m s d).2.length - s.2.length + 1) from nI_add _ 1, eS]
              congr 1
              show _ = ((fnS (due T pm m) m s d).2 ++ [(m, d)]).length - _
              rw [List.length_append]
              show _ = _ + 1 - _
              omega]
            exact r1
        · have eS : fnS (due T pm m) m s (d + 1) = fnS (due T pm m) m s d := by rw [dn, if_neg (fun z => gd z.2)]
          obtain ⟨M', r1, r2, r3⟩ := xfd hO hm hs w (d + 1) M1 (by omega) (by omega) T1 (by rw [eS]; exact S1)
          rw [eS] at r1
          refine ⟨M', ?_, r2, e2.n.g.tr r3⟩
          unfold bX6_doWhatIsDue_4
          refine eq_f st (eq_f od (eq_t z13 (eq_b e1 (eq_t (show bI (due T pm m d = true) = 0 from bI_f gd) ?_))))
          unfold fX6_doWhatIsDue_48
          rw [d1]
          exact r1
      · have eS : fnS (due T pm m) m s (d + 1) = fnS (due T pm m) m s d := by rw [dn, if_neg (fun z => g0 z.1)]
        obtain ⟨M', r1, r2, r3⟩ := xfd hO hm hs w (d + 1) M (by omega) (by omega) hT (by rw [eS]; exact hS)
        rw [eS] at r1
        refine ⟨M', ?_, r2, r3⟩
        unfold bX6_doWhatIsDue_4
        refine eq_f st (eq_f od (eq_f ?_ ?_))
        · rw [cd, a13, show (fnS (due T pm m) m s d).1 / 2 ^ d % 2 = 1 by omega]; decide
        · unfold fX6_doWhatIsDue_48
          rw [d1]
          exact r1
theorem xfin {n0 q m : Nat} {T : TP} {pm : Nat → Int32 × Nat} {s : Nat × List (Nat × Nat)} {M : Mem} (hn : 1700 ≤ n0) (hT : XT n0 q T M) (hS : SX q T.nc T.nd m pm s M) (hO : PsO T.nt T.nc pm) (hm : m ≤ 20000) (hs : sOk T.nd s) :
    ∃ M', fX6_doWhatIsDue n0 M = some (nI ((fnS (due T pm m) m s T.nd).2.length - s.2.length), M') ∧ SX q T.nc T.nd m pm (fnS (due T pm m) m s T.nd) M' ∧ XG stI stA M M' := by
  have h6 := hT.2.1.2.2.1
  obtain ⟨M', e1, e2⟩ := xfd hO hm hs n0 0 M (by omega) (by omega) hT hS
  rw [show (fnS (due T pm m) m s 0).2.length - s.2.length = 0 from Nat.sub_self _] at e1
  exact ⟨M', e1, e2⟩
abbrev xoL (n0 : Nat) : Nat → Int32 → Mem → Option Mem := loopN (bX6_goOn_2 n0) (fun _ _ => none)
theorem xgs {n0 q m : Nat} {T : TP} {pm : Nat → Int32 × Nat} {s : Nat × List (Nat × Nat)} (hO : PsO T.nt T.nc pm) (hm : m < 9999) :
    ∀ w c M, c ≤ T.nc → T.nc < w + c → XT n0 q T M → SX q T.nc T.nd m (pmAt T.gF (m + 1) pm c) s M →
    ∃ M', xoL n0 w (nI c) M = some M' ∧ SX q T.nc T.nd (m + 1) (nxP T m pm) s M' ∧ XG stI stA M M'
  | 0, c, M, hc, hw, _, _ => by omega
  | w + 1, c, M, hc, hw, hT, hS => by
    show ∃ M', bX6_goOn_2 n0 (xoL n0 w) (nI c) M = _ ∧ _
    have h5 := hT.2.1.2.1
    have q5 : gI M (128 * gR M 1280 + 5) = nI T.nc := by rw [hS.2.1]; exact hT.2.2.1
    by_cases g : c = T.nc
    · refine ⟨sI M 1281 (nI (m + 1)), ?_, ⟨hS.1, hS.2.1, gI_at, fun j hj => ?_, hS.2.2.2.2.1, hS.2.2.2.2.2⟩, XG.r.i (by unfold stI; omega)⟩
      · unfold bX6_goOn_2
        refine eq_t (by rw [q5, g]; exact Int32.le_refl _) ?_
        rw [hS.2.2.1, show nI m + 1 = nI (m + 1) from nI_add m 1, show (9999 : Int32) = nI 9999 from rfl, imin_nI (by omega) (by omega), Nat.min_eq_right (by omega)]
      · have := hS.2.2.2.1 j hj
        unfold pmAt at this
        rw [if_pos (by omega)] at this
        exact this
    · have hcn : c < T.nc := by omega
      have cc : (nI c).toNatClampNeg = c := nI_clamp (by omega)
      have oc : ¬ oob (nI c) 5 := nI_in (by omega) (by decide)
      have pcc : pmAt T.gF (m + 1) pm c c = pm c := if_neg (by omega)
      have pl := hS.2.2.2.1 c hcn
      rw [pcc] at pl
      have ok1 := hO c hcn
      have p1 : PmX q c (pm c).1 (pm c).2 m (hld M (nI c) (pm c).1 (nI (pm c).2) (nI m)) := hld_p hS.1
      have f1 : XF noN M (hld M (nI c) (pm c).1 (nI (pm c).2) (nI m)) := hld_f
      obtain ⟨M1, e1, e2, e3⟩ := xgo (hT.1.xf f1 (fun _ z => z.elim)) p1 ⟨by omega, ok1.1, ok1.2, by omega⟩ hm
      have f2 := f1.tr e3
      have S1 := hS.fr f2 (fun _ z => z.elim)
      have hM2 : ∃ M2, M2 = sA (sA M1 11 c (tk T.gF c (m + 1) (pm c)).1) 12 c (nI (tk T.gF c (m + 1) (pm c)).2) := ⟨_, rfl⟩
      obtain ⟨M2, eM⟩ := hM2
      have f3 : XG stI stA M1 M2 := by rw [eM]; exact (XG.r.a (by unfold stA; omega)).a (by unfold stA; omega)
      have S2 : SX q T.nc T.nd m (pmAt T.gF (m + 1) pm (c + 1)) s M2 := by
        refine ⟨by rw [f3.1]; exact S1.1, by rw [f3.1]; exact S1.2.1, by rw [eM]; exact S1.2.2.1, fun j hj => ?_, fun d hd => by rw [eM, gA_sA_ne (by decide), gA_sA_ne (by decide)]; exact S1.2.2.2.2.1 d hd, ⟨by rw [eM]; exact S1.2.2.2.2.2.1, fun i p z => by rw [eM, gA_sA_ne (by decide), gA_sA_ne (by decide), gA_sA_ne (by decide), gA_sA_ne (by decide)]; exact S1.2.2.2.2.2.2 i p z⟩⟩
        rw [eM, gA_sA_ne (by decide), gA_sA, if_pos rfl, gA_sA, if_pos rfl, gA_sA_ne (by decide)]
        unfold pmAt
        by_cases h : j = c
        · rw [if_pos h, if_pos h, if_pos (by omega), h]
          exact ⟨rfl, rfl⟩
        · rw [if_neg h, if_neg h]
          have := S1.2.2.2.1 j hj
          unfold pmAt at this
          by_cases h2 : j < c
          · rw [if_pos (by omega)]
            rw [if_pos h2] at this
            exact this
          · rw [if_neg (by omega)]
            rw [if_neg h2] at this
            exact this
      obtain ⟨M', r1, r2, r3⟩ := xgs hO hm w (c + 1) M2 (by omega) (by omega) ((hT.xf f2 (fun _ z => z.elim)).st f3) S2
      refine ⟨M', ?_, r2, f2.n.g.tr (f3.tr r3)⟩
      unfold bX6_goOn_2
      refine eq_f (by rw [q5]; exact nI_ge hcn (by omega)) (eq_f oc (eq_f oc (eq_b (z := hld M (nI c) (pm c).1 (nI (pm c).2) (nI m)) ?_ (eq_b e1 (eq_f oc (eq_n (eq_f oc (eq_e (v' := M2) ?_ ?_))))))))
      · rw [cc, pl.1, pl.2, hS.2.2.1]
        exact xhold
      · rw [eM, cc, e2.2.2.1]
        show sA (sA M1 11 c _) 12 c (gI M1 899) = _
        rw [e2.2.2.2.1]
      · rw [show nI c + 1 = nI (c + 1) from nI_add c 1]
        exact r1
theorem xgoS {n0 q m : Nat} {T : TP} {pm : Nat → Int32 × Nat} {s : Nat × List (Nat × Nat)} {M : Mem} (hn : 1700 ≤ n0) (hT : XT n0 q T M) (hS : SX q T.nc T.nd m pm s M) (hO : PsO T.nt T.nc pm) (hm : m < 9999) : ∃ M', fX6_goOn n0 M = some M' ∧ SX q T.nc T.nd (m + 1) (nxP T m pm) s M' ∧ XG stI stA M M' := by
  have h5 := hT.2.1.2.1
  refine xgs hO hm n0 0 M (by omega) (by omega) hT ?_
  have e : pmAt T.gF (m + 1) pm 0 = pm := by
    funext j
    unfold pmAt
    exact if_neg (by omega)
  rw [e]
  exact hS
end
section
/-! BOTH SIDES BETWEEN TWO CALLS -/
/-- what ways there are: nothing is said of them yet -/
def FarR (q b nc : Nat) (MX MY : Mem) : Prop := q + b + nc = q + b + nc ∧ gR MX 0 = gR MX 0 ∧ gR MY 0 = gR MY 0
theorem FarR.tw {q b nc : Nat} {MX MY MX' MY' : Mem} (_ : FarR q b nc MX MY) (_ : xTw q MX MX') (_ : yTw b MY MY') : FarR q b nc MX' MY' := ⟨rfl, rfl, rfl⟩
/-- the told town, the draft, the bank -/
def RT (n0 q b : Nat) (T : TP) (nr C : Nat) (MX MY : Mem) : Prop := (q = 31 ∨ q = 47) ∧ gR MX 1 = q ∧ gR MX 2 = 78 - q ∧ XT n0 q T MX ∧ YT n0 b T MY ∧ TownR q b T.nt T.nc T.nd nr C MX MY ∧ FarR q b T.nc MX MY
theorem RT.tw {n0 q b : Nat} {T : TP} {nr C : Nat} {MX MY MX' MY' : Mem} (h : RT n0 q b T nr C MX MY) (hx : xTw q MX MX') (hy : yTw b MY MY') (h13 : gI MY' 13 = gI MY 13) (h1 : gR MX' 1 = gR MX 1) (h2 : gR MX' 2 = gR MX 2) : RT n0 q b T nr C MX' MY' :=
  ⟨h.1, h1.trans h.2.1, h2.trans h.2.2.1, h.2.2.2.1.tw hx, h.2.2.2.2.1.tw hy h13, h.2.2.2.2.2.1.tw hx hy, h.2.2.2.2.2.2.tw hx hy⟩
/-- a row of the past -/
def RowX (p : Nat) (T : TP) (m kn D : Nat) (pm : Nat → Int32 × Nat) (M : Mem) : Prop := gA M p 0 = nI m ∧ gA M p 1 = nI kn ∧ (∀ c, c < T.nc → gA M p (2 + c) = (pm c).1 ∧ gA M p (7 + c) = nI (pm c).2) ∧ ∀ d, d < T.nd → gA M p (12 + d) = nI (D / 2 ^ d % 2)
abbrev Rec : Type := Nat × (Nat → Int32 × Nat) × Nat × Nat
def UE (T : TP) (K : List (Nat × Nat)) (e : Rec) (p v : Nat) (MX MY : Mem) : Prop := e.1 ≤ 9999 ∧ PsO T.nt T.nc e.2.1 ∧ sOk T.nd (e.2.2.1, K.take e.2.2.2) ∧ e.2.2.2 ≤ K.length ∧ RowX p T e.1 e.2.2.2 e.2.2.1 e.2.1 MX ∧ LyD v T.nc e.1 e.2.1 (e.2.2.1, K.take e.2.2.2) MY
def RU (T : TP) (K : List (Nat × Nat)) (MX MY : Mem) : Prop := ∃ (x0 f u : Nat) (e : Nat → Rec), x0 < 20 ∧ f < 20 ∧ u ≤ 20 ∧ gI MX 2049 = nI ((x0 + u) % 20) ∧ gI MX 2050 = nI u ∧ gI MY 53 = nI f ∧ gI MY 54 = nI u ∧ (∀ i, i < u → UE T K (e i) (63 + (x0 + i) % 20) (2 + (f + i) % 20) MX MY) ∧ ∀ i j, i ≤ j → j < u → (e i).2.2.2 ≤ (e j).2.2.2
/-- the layers of the past -/
def uP (a i : Nat) : Prop := ((a = 28 ∨ a = 31 ∨ a = 32) ∧ 2 ≤ i) ∨ ((a = 29 ∨ a = 30) ∧ 10 ≤ i) ∨ (a = 33 ∧ 160 ≤ i)
theorem LyD.cg {v nc m : Nat} {pm : Nat → Int32 × Nat} {s : Nat × List (Nat × Nat)} {M M' : Mem} (h : LyD v nc m pm s M) (hc : nc ≤ 5) (hk : s.2.length ≤ 40) (hP : ∀ a i, lP v a i → gA M' a i = gA M a i) : LyD v nc m pm s M' :=
  ⟨⟨(hP 28 v (by unfold lP tP; omega)).trans h.1.1, fun c h1 => by
    rw [hP 29 _ (by unfold lP tP; omega), hP 30 _ (by unfold lP tP; omega)]
    exact h.1.2 c h1⟩, (hP 31 v (by unfold lP dP; omega)).trans h.2.1, (hP 32 v (by unfold lP dP; omega)).trans h.2.2.1, fun i p g => by
    have := K_lt g
    rw [hP 33 _ (by unfold lP dP; omega), hP 33 _ (by unfold lP dP; omega)]
    exact h.2.2.2 i p g⟩
theorem UE.cg {T : TP} {K K' : List (Nat × Nat)} {e : Rec} {p v : Nat} {MX MY MX' MY' : Mem} (h : UE T K e p v MX MY) (hT : T.ok) (hv : 2 ≤ v) (hK : K'.take e.2.2.2 = K.take e.2.2.2) (hl : e.2.2.2 ≤ K'.length) (hx : gA MX' p = gA MX p) (hy : ∀ a i, uP a i → gA MY' a i = gA MY a i) : UE T K' e p v MX' MY' := by
  obtain ⟨h1, h2, h3, h4, h5, h6⟩ := h
  refine ⟨h1, h2, by rw [hK]; exact h3, hl, ?_, ?_⟩
  · unfold RowX at h5 ⊢
    rw [hx]
    exact h5
  · rw [hK]
    have := h3.l
    exact h6.cg hT.2.1 (by omega) (fun a i z => hy a i (by unfold lP tP dP at z; unfold uP; omega))
theorem RU.cg {T : TP} {K K' : List (Nat × Nat)} {MX MY MX' MY' : Mem} (h : RU T K MX MY) (hT : T.ok) (hK : ∃ L, K' = K ++ L) (hx : ∀ p, 63 ≤ p → p < 83 → gA MX' p = gA MX p) (h1 : gI MX' 2049 = gI MX 2049) (h2 : gI MX' 2050 = gI MX 2050) (h3 : gI MY' 53 = gI MY 53) (h4 : gI MY' 54 = gI MY 54) (hy : ∀ a i, uP a i → gA MY' a i = gA MY a i) : RU T K' MX' MY' := by
  obtain ⟨x0, f, u, e, a1, a2, a3, a4, a5, a6, a7, a8, a9⟩ := h
  obtain ⟨L, rfl⟩ := hK
  refine ⟨x0, f, u, e, a1, a2, a3, h1.trans a4, h2.trans a5, h3.trans a6, h4.trans a7, fun i hi => ?_, a9⟩
  have g := a8 i hi
  exact g.cg hT (by omega) (List.take_append_of_le_length g.2.2.2.1) (by rw [List.length_append]; have := g.2.2.2.1; omega) (hx _ (by omega) (by omega)) hy
/-- rows seen -/
def RN (nc : Nat) (MX MY : Mem) : Prop := ∃ n, n ≤ 16 ∧ gI MX 2688 = nI n ∧ gI MY 61 = nI n ∧ ∀ k, k < n → ∃ a c h, a ≤ 40 ∧ c < nc ∧ h ≤ 23 ∧ gA MX 22 k = nI a ∧ gA MY 39 k = nI a ∧ gA MX 23 k = nI c ∧ gA MY 40 k = nI c ∧ gA MX 24 k = nI h ∧ gA MY 41 k = nI h
theorem RN.cg {nc : Nat} {MX MY MX' MY' : Mem} (h : RN nc MX MY) (h1 : gI MX' 2688 = gI MX 2688) (h2 : gI MY' 61 = gI MY 61) (hx : ∀ a, 22 ≤ a → a ≤ 24 → gA MX' a = gA MX a) (hy : ∀ a, 39 ≤ a → a ≤ 41 → gA MY' a = gA MY a) : RN nc MX' MY' := by
  obtain ⟨n, n1, n2, n3, n4⟩ := h
  refine ⟨n, n1, h1.trans n2, h2.trans n3, fun k hk => ?_⟩
  rw [hx 22 (by decide) (by decide), hx 23 (by decide) (by decide), hx 24 (by decide) (by decide), hy 39 (by decide) (by decide), hy 40 (by decide) (by decide), hy 41 (by decide) (by decide)]
  exact n4 k hk
def RD (MX MY : Mem) : Prop := ∃ x : Nat, x < 2147483648 ∧ gI MX 17 = nI x ∧ gL MY 55 = zL x
def RI (MX MY : Mem) : Prop := ∃ n, n ≤ 24 ∧ gI MX 14 = nI n ∧ gI MY 67 = nI n ∧ ∀ k, k < n → gA MX 29 k = gA MY 43 k
def RX (MX MY : Mem) : Prop := ∀ k, k < 6 → gA MX 30 k = gA MY 27 k
def RF (MX MY : Mem) : Prop := gI MX 15 = gI MY 10 ∧ gI MX 16 = gI MY 11
def RP (MX MY : Mem) : Prop := ∃ L, L ≤ 1600 ∧ gI MX 641 = nI L ∧ gI MY 1 = nI L ∧ gA MY 1 = gA MX 6 ∧ Byt (gA MX 6) L
def RW (MX : Mem) : Prop := ∀ i, i < 25 → gA MX 4 i = nI (ownC i)
theorem RD.cg {MX MY MX' MY' : Mem} (h : RD MX MY) (h1 : gI MX' 17 = gI MX 17) (h2 : gL MY' 55 = gL MY 55) : RD MX' MY' := by
  unfold RD at h ⊢
  rw [h1, h2]
  exact h
theorem RI.cg {MX MY MX' MY' : Mem} (h : RI MX MY) (h1 : gI MX' 14 = gI MX 14) (h2 : gI MY' 67 = gI MY 67) (h3 : gA MX' 29 = gA MX 29) (h4 : gA MY' 43 = gA MY 43) : RI MX' MY' := by
  unfold RI at h ⊢
  rw [h1, h2, h3, h4]
  exact h
theorem RX.cg {MX MY MX' MY' : Mem} (h : RX MX MY) (h1 : gA MX' 30 = gA MX 30) (h2 : gA MY' 27 = gA MY 27) : RX MX' MY' := by
  unfold RX at h ⊢
  rw [h1, h2]
  exact h
theorem RF.cg {MX MY MX' MY' : Mem} (h : RF MX MY) (h1 : gI MX' 15 = gI MX 15) (h2 : gI MX' 16 = gI MX 16) (h3 : gI MY' 10 = gI MY 10) (h4 : gI MY' 11 = gI MY 11) : RF MX' MY' := by
  unfold RF at h ⊢
  rw [h1, h2, h3, h4]
  exact h
theorem RP.cg {MX MY MX' MY' : Mem} (h : RP MX MY) (h1 : gI MX' 641 = gI MX 641) (h2 : gI MY' 1 = gI MY 1) (h3 : gA MX' 6 = gA MX 6) (h4 : gA MY' 1 = gA MY 1) : RP MX' MY' := by
  unfold RP at h ⊢
  rw [h1, h2, h3, h4]
  exact h
theorem RW.cg {MX MX' : Mem} (h : RW MX) (h1 : gA MX' 4 = gA MX 4) : RW MX' := by
  unfold RW at h ⊢
  rw [h1]
  exact h
def RO (MX MY : Mem) : Prop := RD MX MY ∧ RI MX MY ∧ RX MX MY ∧ RF MX MY ∧ RP MX MY ∧ RW MX
def RR (n0 q b : Nat) (T : TP) (nr C m : Nat) (pm : Nat → Int32 × Nat) (s : Nat × List (Nat × Nat)) (MX MY : Mem) : Prop := RT n0 q b T nr C MX MY ∧ (m ≤ 9999 ∧ PsO T.nt T.nc pm ∧ sOk T.nd s) ∧ SX q T.nc T.nd m pm s MX ∧ LyD 0 T.nc m pm s MY ∧ RU T s.2 MX MY ∧ RN T.nc MX MY ∧ RO MX MY
def R (n0 : Nat) (MX MY : Mem) : Prop := ∃ q b T nr C m pm s, RR n0 q b T nr C m pm s MX MY
/-- what looking ahead may change -/
def scA (a : Nat) : Prop := a = 19 ∨ a = 20 ∨ a = 26 ∨ a = 27 ∨ a = 28 ∨ (83 ≤ a ∧ a < 90)
def scP (a i : Nat) : Prop := lP 1 a i ∨ (36 ≤ a ∧ a ≤ 38) ∨ a = 42
theorem XF.gA {A : Nat → Prop} {M M' : Mem} (h : XF A M M') {a : Nat} (h1 : ¬ A a) (h2 : ¬ (a = 8 ∨ a = 9)) : gA M' a = gA M a := h.2.2.2.1 a (fun e => by
  rcases e with e | e | e
  · exact h2 (Or.inl e)
  · exact h2 (Or.inr e)
  · exact h1 e)
theorem YF.gA {P : Nat → Nat → Prop} {M M' : Mem} (h : YF P M M') {a : Nat} (h1 : ∀ i, ¬ P a i) (h2 : ¬ a = 35) : gA M' a = gA M a := by
  funext i
  exact h.2.2.2.1 a i h2 (h1 i)
theorem RO.scr {MX MY MX' MY' : Mem} (h : RO MX MY) (fx : XF scA MX MX') (fy : YF scP MY MY') : RO MX' MY' := by
  obtain ⟨h1, h2, h3, h4, h5, h6⟩ := h
  have gx : ∀ a, ¬ scA a → ¬ (a = 8 ∨ a = 9) → gA MX' a = gA MX a := fun a z1 z2 => fx.gA z1 z2
  have gy : ∀ a, (∀ i, ¬ scP a i) → ¬ a = 35 → gA MY' a = gA MY a := fun a z1 z2 => fy.gA z1 z2
  have ix : ∀ k, ¬ ((897 ≤ k ∧ k ≤ 900) ∨ k = 903) → gI MX' k = gI MX k := fx.2.2.2.2
  have iy : ∀ k, gI MY' k = gI MY k := fun k => by rw [fy.2.2.1]
  exact ⟨h1.cg (ix 17 (by decide)) (by rw [fy.2.1]), h2.cg (ix 14 (by decide)) (iy 67) (gx 29 (by unfold scA; omega) (by decide)) (gy 43 (fun i => by unfold scP lP tP dP; omega) (by decide)), h3.cg (gx 30 (by unfold scA; omega) (by decide)) (gy 27 (fun i => by unfold scP lP tP dP; omega) (by decide)), h4.cg (ix 15 (by decide)) (ix 16 (by decide)) (iy 10) (iy 11), h5.cg (ix 641 (by decide)) (iy 1) (gx 6 (by unfold scA; omega) (by decide)) (gy 1 (fun i => by unfold scP lP tP dP; omega) (by decide)), h6.cg (gx 4 (by unfold scA; omega) (by decide))⟩
theorem RR.scr {n0 q b : Nat} {T : TP} {nr C m : Nat} {pm : Nat → Int32 × Nat} {s : Nat × List (Nat × Nat)} {MX MY MX' MY' : Mem} (h : RR n0 q b T nr C m pm s MX MY) (fx : XF scA MX MX') (fy : YF scP MY MY') : RR n0 q b T nr C m pm s MX' MY' := by
  obtain ⟨h1, h2, h3, h4, h5, h6, h7⟩ := h
  have hok := h1.2.2.2.1.2.1
  have hl := h2.2.2.l
  refine ⟨h1.tw (fx.tw h1.1 (fun a z => by unfold scA at z; omega)) (fy.tw (fun a i z => by unfold scP lP tP dP at z; omega)) (by rw [fy.2.2.1]) (by rw [fx.1]) (by rw [fx.1]), h2, h3.fr fx (fun a z y => by unfold scA at z; unfold stA at y; omega), h4.fr fy hok.2.1 (by omega) (fun a i z y => by unfold scP lP tP dP at z; unfold lP tP dP at y; omega), h5.cg hok ⟨[], (List.append_nil _).symm⟩ (fun p z1 z2 => fx.gA (by unfold scA; omega) (by omega)) (fx.2.2.2.2 2049 (by decide)) (fx.2.2.2.2 2050 (by decide)) (by rw [fy.2.2.1]) (by rw [fy.2.2.1]) (fun a i z => fy.2.2.2.1 a i (by unfold uP at z; omega) (fun y => by unfold scP lP tP dP at y; unfold uP at z; omega)), h6.cg (fx.2.2.2.2 2688 (by decide)) (by rw [fy.2.2.1]) (fun a z1 z2 => fx.gA (by unfold scA; omega) (by omega)) (fun a z1 z2 => fy.gA (fun i => by unfold scP lP tP dP; omega) (by omega)), h7.scr fx fy⟩
/-- a call on both sides: one answer, and both sides as before -/
def Cal (n0 : Nat) (f g : Option (Int32 × Mem)) : Prop := ∃ r MX' MY', f = some (r, MX') ∧ g = some (r, MY') ∧ R n0 MX' MY'
theorem Cal.scr {n0 q b : Nat} {T : TP} {nr C m : Nat} {pm : Nat → Int32 × Nat} {s : Nat × List (Nat × Nat)} {MX MY MX' MY' : Mem} {f g : Option (Int32 × Mem)} {r : Int32} (h : RR n0 q b T nr C m pm s MX MY) (e1 : f = some (r, MX')) (e2 : g = some (r, MY')) (fx : XF scA MX MX') (fy : YF scP MY MY') : Cal n0 f g := ⟨r, MX', MY', e1, e2, q, b, T, nr, C, m, pm, s, h.scr fx fy⟩
theorem in_or {n : Nat} (x : Int32) (hn : n < 2 ^ 31) : (∃ k, k < n ∧ x = nI k) ∨ (x < 0 ∨ nI n ≤ x) := by
  by_cases h1 : x < 0
  · exact Or.inr (Or.inl h1)
  · by_cases h2 : nI n ≤ x
    · exact Or.inr (Or.inr h2)
    · have h3 : x ≤ nI n := by
        rw [i_le] at h2 ⊢
        omega
      obtain ⟨j, hj, rfl⟩ := nI_of2 (M := nI n) (n := n) (nI_toInt hn) h1 h3
      refine Or.inl ⟨j, ?_, rfl⟩
      rcases Nat.lt_or_ge j n with g | g
      · exact g
      · exact absurd (by rw [show j = n by omega]; exact Int32.le_refl _) h2
end
section
/-! PLAIN CALLS: the tape, refusals, what is told of things, corners, doings -/
theorem nAnd (a b : Nat) : nI a &&& nI b = nI (a &&& b) := by
  apply Int32.toBitVec_inj.1
  show BitVec.ofNat 32 a &&& BitVec.ofNat 32 b = BitVec.ofNat 32 (a &&& b)
  exact BitVec.ofNat_and.symm
theorem n255 (x : Int32) : ∃ k, k < 256 ∧ x &&& 255 = nI k := by
  have e : x = nI x.toBitVec.toNat := by
    apply Int32.toBitVec_inj.1
    show x.toBitVec = BitVec.ofNat 32 x.toBitVec.toNat
    simp
  refine ⟨x.toBitVec.toNat % 256, Nat.mod_lt _ (by omega), ?_⟩
  rw [e, show (255 : Int32) = nI 255 from rfl, nAnd, ← Nat.and_two_pow_sub_one_eq_mod _ 8]
  congr 2
  rw [← e]
theorem yis {n0 n : Nat} {x hi : Int32} (hn : n < 2 ^ 31) (e : hi = nI n - 1) : (∃ k, k < n ∧ x = nI k ∧ ∀ M, fX12_is n0 x 0 hi M = some (1, M)) ∨ ((x < 0 ∨ nI n ≤ x) ∧ ∀ M, fX12_is n0 x 0 hi M = some (0, M)) := by
  have hi1 : hi.toInt = (n : Int) - 1 := by
    rw [e, nz, show (1 : Int32) = zI 1 from rfl, zI_sub, zI_toInt (by omega) (by omega)]
  rcases in_or x hn with ⟨k, hk, rfl⟩ | h
  · refine Or.inl ⟨k, hk, rfl, fun M => ?_⟩
    unfold fX12_is
    refine eq_f (nI_nn (by omega)) (eq_f ?_ rfl)
    rw [i_lt, hi1, nI_toInt (by omega)]
    omega
  · refine Or.inr ⟨h, fun M => ?_⟩
    unfold fX12_is
    rcases h with h | h
    · exact eq_t h rfl
    · rw [i_le, nI_toInt hn] at h
      refine eq_f (fun z => ?_) (eq_t ?_ rfl)
      · rw [i_lt, show (0 : Int32).toInt = 0 from rfl] at z
        omega
      · rw [i_lt, hi1]
        omega
theorem yisc {n0 : Nat} (n : Nat) {x hi : Int32} (hn : n < 2 ^ 31) (e : hi = nI n - 1) : (∃ k, k < n ∧ x = nI k ∧ ∀ M, fX12_is n0 x 0 hi M = some (1, M)) ∨ ((x < 0 ∨ nI n ≤ x) ∧ ∀ M, fX12_is n0 x 0 hi M = some (0, M)) := yis hn e
theorem xTht {n0 q n k : Nat} {M : Mem} (h : gI M (128 * q + 1) = nI n) (hn : n ≤ 6) (hk : k < n) : fX9_isThing n0 q (nI k) M = some (1, M) := by
  unfold fX9_isThing
  rw [h]
  exact eq_f (nI_nn (by omega)) (eq_f (nI_ge hk (by omega)) rfl)
theorem xThf {n0 q n : Nat} {x : Int32} {M : Mem} (h : gI M (128 * q + 1) = nI n) (hx : x < 0 ∨ nI n ≤ x) : fX9_isThing n0 q x M = some (0, M) := by
  unfold fX9_isThing
  rw [h]
  by_cases g : x < 0
  · exact eq_t g rfl
  · exact eq_f g (eq_t (hx.resolve_left g) rfl)
theorem yTht {n0 b n k : Nat} {M : Mem} (h13 : gI M 13 = nI b) (hb : b ≤ 1) (h : gA M 2 b = nI n) (hn : n ≤ 6) (hk : k < n) : fX12_isThing n0 (nI k) M = some (1, M) := by
  have cb : (nI b).toNatClampNeg = b := nI_clamp (by omega)
  unfold fX12_isThing
  simp only [h13, cb, h]
  exact eq_f (nI_nn (by omega)) (eq_f (nI_in (by omega) (by decide)) (eq_f (nI_ge hk (by omega)) rfl))
theorem yThf {n0 b n : Nat} {x : Int32} {M : Mem} (h13 : gI M 13 = nI b) (hb : b ≤ 1) (h : gA M 2 b = nI n) (hx : x < 0 ∨ nI n ≤ x) : fX12_isThing n0 x M = some (0, M) := by
  have cb : (nI b).toNatClampNeg = b := nI_clamp (by omega)
  unfold fX12_isThing
  simp only [h13, cb, h]
  by_cases g : x < 0
  · exact eq_t g rfl
  · exact eq_f g (eq_f (nI_in (by omega) (by decide)) (eq_t (hx.resolve_left g) rfl))
theorem isTh {n0 q b : Nat} {T : TP} {nr C : Nat} {MX MY : Mem} (h : RT n0 q b T nr C MX MY) (x : Int32) : (∃ k, k < T.nt ∧ x = nI k ∧ fX9_isThing n0 (gR MX 1) x MX = some (1, MX) ∧ fX12_isThing n0 x MY = some (1, MY)) ∨ ((x < 0 ∨ nI T.nt ≤ x) ∧ fX9_isThing n0 (gR MX 1) x MX = some (0, MX) ∧ fX12_isThing n0 x MY = some (0, MY)) := by
  obtain ⟨o1, o2, o3, _⟩ := h.2.2.2.1.2.1
  have y13 := h.2.2.2.2.1.2.2.2.1
  have hb := h.2.2.2.2.1.2.2.1
  rw [h.2.1]
  rcases in_or (n := T.nt) x (by omega) with ⟨k, hk, rfl⟩ | z
  · exact Or.inl ⟨k, hk, rfl, xTht h.2.2.2.1.1.2.2.1 o1 hk, yTht y13 hb h.2.2.2.2.1.2.2.2.2.1 o1 hk⟩
  · exact Or.inr ⟨z, xThf h.2.2.2.1.1.2.2.1 z, yThf y13 hb h.2.2.2.2.1.2.2.2.2.1 z⟩
theorem xCot {n0 q n k : Nat} {M : Mem} (h : gI M (128 * q + 5) = nI n) (hn : n ≤ 6) (hk : k < n) : fX9_isCorner n0 q (nI k) M = some (1, M) := by
  unfold fX9_isCorner
  rw [h]
  exact eq_f (nI_nn (by omega)) (eq_f (nI_ge hk (by omega)) rfl)
theorem xCof {n0 q n : Nat} {x : Int32} {M : Mem} (h : gI M (128 * q + 5) = nI n) (hx : x < 0 ∨ nI n ≤ x) : fX9_isCorner n0 q x M = some (0, M) := by
  unfold fX9_isCorner
  rw [h]
  by_cases g : x < 0
  · exact eq_t g rfl
  · exact eq_f g (eq_t (hx.resolve_left g) rfl)
theorem yCot {n0 b n k : Nat} {M : Mem} (h13 : gI M 13 = nI b) (hb : b ≤ 1) (h : gA M 5 b = nI n) (hn : n ≤ 6) (hk : k < n) : fX12_isCorner n0 (nI k) M = some (1, M) := by
  have cb : (nI b).toNatClampNeg = b := nI_clamp (by omega)
  unfold fX12_isCorner
  simp only [h13, cb, h]
  exact eq_f (nI_nn (by omega)) (eq_f (nI_in (by omega) (by decide)) (eq_f (nI_ge hk (by omega)) rfl))
theorem yCof {n0 b n : Nat} {x : Int32} {M : Mem} (h13 : gI M 13 = nI b) (hb : b ≤ 1) (h : gA M 5 b = nI n) (hx : x < 0 ∨ nI n ≤ x) : fX12_isCorner n0 x M = some (0, M) := by
  have cb : (nI b).toNatClampNeg = b := nI_clamp (by omega)
  unfold fX12_isCorner
  simp only [h13, cb, h]
  by_cases g : x < 0
  · exact eq_t g rfl
  · exact eq_f g (eq_f (nI_in (by omega) (by decide)) (eq_t (hx.resolve_left g) rfl))
theorem isCo {n0 q b : Nat} {T : TP} {nr C : Nat} {MX MY : Mem} (h : RT n0 q b T nr C MX MY) (x : Int32) : (∃ k, k < T.nc ∧ x = nI k ∧ fX9_isCorner n0 (gR MX 1) x MX = some (1, MX) ∧ fX12_isCorner n0 x MY = some (1, MY)) ∨ ((x < 0 ∨ nI T.nc ≤ x) ∧ fX9_isCorner n0 (gR MX 1) x MX = some (0, MX) ∧ fX12_isCorner n0 x MY = some (0, MY)) := by
  obtain ⟨o1, o2, o3, _⟩ := h.2.2.2.1.2.1
  have y13 := h.2.2.2.2.1.2.2.2.1
  have hb := h.2.2.2.2.1.2.2.1
  rw [h.2.1]
  rcases in_or (n := T.nc) x (by omega) with ⟨k, hk, rfl⟩ | z
  · exact Or.inl ⟨k, hk, rfl, xCot h.2.2.2.1.2.2.1 (Nat.le_trans o2 (by decide)) hk, yCot y13 hb h.2.2.2.2.1.2.2.2.2.2.1 (Nat.le_trans o2 (by decide)) hk⟩
  · exact Or.inr ⟨z, xCof h.2.2.2.1.2.2.1 z, yCof y13 hb h.2.2.2.2.1.2.2.2.2.2.1 z⟩
theorem xDot {n0 q n k : Nat} {M : Mem} (h : gI M (128 * q + 12) = nI n) (hn : n ≤ 6) (hk : k < n) : fX9_isDoing n0 q (nI k) M = some (1, M) := by
  unfold fX9_isDoing
  rw [h]
  exact eq_f (nI_nn (by omega)) (eq_f (nI_ge hk (by omega)) rfl)
theorem xDof {n0 q n : Nat} {x : Int32} {M : Mem} (h : gI M (128 * q + 12) = nI n) (hx : x < 0 ∨ nI n ≤ x) : fX9_isDoing n0 q x M = some (0, M) := by
  unfold fX9_isDoing
  rw [h]
  by_cases g : x < 0
  · exact eq_t g rfl
  · exact eq_f g (eq_t (hx.resolve_left g) rfl)
theorem yDot {n0 b n k : Nat} {M : Mem} (h13 : gI M 13 = nI b) (hb : b ≤ 1) (h : gA M 10 b = nI n) (hn : n ≤ 6) (hk : k < n) : fX12_isDoing n0 (nI k) M = some (1, M) := by
  have cb : (nI b).toNatClampNeg = b := nI_clamp (by omega)
  unfold fX12_isDoing
  simp only [h13, cb, h]
  exact eq_f (nI_nn (by omega)) (eq_f (nI_in (by omega) (by decide)) (eq_f (nI_ge hk (by omega)) rfl))
theorem yDof {n0 b n : Nat} {x : Int32} {M : Mem} (h13 : gI M 13 = nI b) (hb : b ≤ 1) (h : gA M 10 b = nI n) (hx : x < 0 ∨ nI n ≤ x) : fX12_isDoing n0 x M = some (0, M) := by
  have cb : (nI b).toNatClampNeg = b := nI_clamp (by omega)
  unfold fX12_isDoing
  simp only [h13, cb, h]
  by_cases g : x < 0
  · exact eq_t g rfl
  · exact eq_f g (eq_f (nI_in (by omega) (by decide)) (eq_t (hx.resolve_left g) rfl))
theorem isDo {n0 q b : Nat} {T : TP} {nr C : Nat} {MX MY : Mem} (h : RT n0 q b T nr C MX MY) (x : Int32) : (∃ k, k < T.nd ∧ x = nI k ∧ fX9_isDoing n0 (gR MX 1) x MX = some (1, MX) ∧ fX12_isDoing n0 x MY = some (1, MY)) ∨ ((x < 0 ∨ nI T.nd ≤ x) ∧ fX9_isDoing n0 (gR MX 1) x MX = some (0, MX) ∧ fX12_isDoing n0 x MY = some (0, MY)) := by
  obtain ⟨o1, o2, o3, _⟩ := h.2.2.2.1.2.1
  have y13 := h.2.2.2.2.1.2.2.2.1
  have hb := h.2.2.2.2.1.2.2.1
  rw [h.2.1]
  rcases in_or (n := T.nd) x (by omega) with ⟨k, hk, rfl⟩ | z
  · exact Or.inl ⟨k, hk, rfl, xDot h.2.2.2.1.2.2.2.1 o3 hk, yDot y13 hb h.2.2.2.2.1.2.2.2.2.2.2.1 o3 hk⟩
  · exact Or.inr ⟨z, xDof h.2.2.2.1.2.2.2.1 z, yDof y13 hb h.2.2.2.2.1.2.2.2.2.2.2.1 z⟩
/-- what plain calls may change -/
def XOu (M M' : Mem) : Prop := gR M' = gR M ∧ (∀ k, ¬ ((14 ≤ k ∧ k ≤ 17) ∨ k = 641) → gI M' k = gI M k) ∧ ∀ a, ¬ (a = 6 ∨ a = 29 ∨ a = 30) → gA M' a = gA M a
def YOu (M M' : Mem) : Prop := (∀ k, ¬ (k = 1 ∨ k = 10 ∨ k = 11 ∨ k = 67) → gI M' k = gI M k) ∧ (∀ a, ¬ (a = 1 ∨ a = 27 ∨ a = 43) → gA M' a = gA M a) ∧ gB M' = gB M
theorem RR.ou {n0 q b : Nat} {T : TP} {nr C m : Nat} {pm : Nat → Int32 × Nat} {s : Nat × List (Nat × Nat)} {MX MY MX' MY' : Mem} (h : RR n0 q b T nr C m pm s MX MY) (fx : XOu MX MX') (fy : YOu MY MY') (ho : RO MX' MY') : RR n0 q b T nr C m pm s MX' MY' := by
  obtain ⟨h1, h2, h3, h4, h5, h6, h7⟩ := h
  have hok := h1.2.2.2.1.2.1
  have hl := h2.2.2.l
  have hq := h1.1
  refine ⟨h1.tw ⟨fun j z1 z2 => fx.2.1 j (by omega), fun a z1 z2 => fx.2.2 a (by omega)⟩ (yTw.all (fun a z1 z2 => fy.2.1 a (by omega)) (fun a _ _ => by rw [fy.2.2])) (fy.1 13 (by decide)) (by rw [fx.1]) (by rw [fx.1]), h2, ?_, h4.cg hok.2.1 (by omega) (fun a i z => by rw [fy.2.1 a (by unfold lP tP dP at z; omega)]), h5.cg hok ⟨[], (List.append_nil _).symm⟩ (fun p z1 z2 => fx.2.2 p (by omega)) (fx.2.1 2049 (by decide)) (fx.2.1 2050 (by decide)) (fy.1 53 (by decide)) (fy.1 54 (by decide)) (fun a i z => by rw [fy.2.1 a (by unfold uP at z; omega)]), h6.cg (fx.2.1 2688 (by decide)) (fy.1 61 (by decide)) (fun a z1 z2 => fx.2.2 a (by omega)) (fun a z1 z2 => fy.2.1 a (by omega)), ho⟩
  obtain ⟨s1, s2, s3, s4, s5, s6, s7⟩ := h3
  refine ⟨by rw [fx.1]; exact s1, by rw [fx.1]; exact s2, (fx.2.1 1281 (by decide)).trans s3, fun c hc => ?_, fun d hd => ?_, (fx.2.1 1285 (by decide)).trans s6, fun i p hp => ?_⟩
  · rw [fx.2.2 11 (by decide), fx.2.2 12 (by decide)]; exact s4 c hc
  · rw [fx.2.2 13 (by decide)]; exact s5 d hd
  · rw [fx.2.2 14 (by decide), fx.2.2 15 (by decide)]; exact s7 i p hp
theorem xref {n0 k : Nat} {M : Mem} (hk : k < 6) : fX11_refuse n0 (nI k) M = some (-1, sA M 30 k (gA M 30 k + 1)) := by
  have ck : (nI k).toNatClampNeg = k := nI_clamp (by omega)
  unfold fX11_refuse
  simp only [ck]
  exact eq_f (nI_nn (by omega)) (eq_f (nI_ge (b := 6) hk (by decide)) (eq_f (nI_in hk (by decide)) (eq_f (nI_in hk (by decide)) rfl)))
theorem yref {n0 k : Nat} {M : Mem} (hk : k < 6) : fX12_refuses n0 (nI k) M = some (-1, sA M 27 k (gA M 27 k + 1)) := by
  have ck : (nI k).toNatClampNeg = k := nI_clamp (by omega)
  unfold fX12_refuses
  simp only [ck]
  exact eq_f (nI_in hk (by decide)) (eq_f (nI_in hk (by decide)) rfl)
theorem R.ref {n0 k : Nat} {MX MY : Mem} (h : R n0 MX MY) (hk : k < 6) : R n0 (sA MX 30 k (gA MX 30 k + 1)) (sA MY 27 k (gA MY 27 k + 1)) := by
  obtain ⟨q, b, T, nr, C, m, pm, s, h⟩ := h
  have ho := h.2.2.2.2.2.2
  refine ⟨q, b, T, nr, C, m, pm, s, h.ou ⟨rfl, fun _ _ => rfl, fun a z => gA_sA_ne (by omega)⟩ ⟨fun _ _ => rfl, fun a z => gA_sA_ne (by omega), rfl⟩ ⟨ho.1, ho.2.1.cg rfl rfl (gA_sA_ne (by decide)) (gA_sA_ne (by decide)), fun j hj => ?_, ho.2.2.2.1, ho.2.2.2.2.1.cg rfl rfl (gA_sA_ne (by decide)) (gA_sA_ne (by decide)), ho.2.2.2.2.2.cg (gA_sA_ne (by decide))⟩⟩
  rw [gA_sA, if_pos rfl, gA_sA, if_pos rfl, ho.2.2.1 k hk, ho.2.2.1 j hj]
/-- a refusal on both sides -/
theorem Cal.ref {n0 k : Nat} {MX MY : Mem} {f g : Option (Int32 × Mem)} {r : Int32} (h : R n0 MX MY) (hk : k < 6) (e1 : f = some (r, sA MX 30 k (gA MX 30 k + 1))) (e2 : g = some (r, sA MY 27 k (gA MY 27 k + 1))) : Cal n0 f g := ⟨r, _, _, e1, e2, h.ref hk⟩
theorem Cal.same {n0 : Nat} {MX MY : Mem} {f g : Option (Int32 × Mem)} {r : Int32} (h : R n0 MX MY) (e1 : f = some (r, MX)) (e2 : g = some (r, MY)) : Cal n0 f g := ⟨r, _, _, e1, e2, h⟩
theorem cEnd {n0 : Nat} {x : Int32} {MX MY : Mem} (h : R n0 MX MY) : Cal n0 (fX11_end n0 x MX) (fX12_end n0 x MY) := by
  have h0 := h
  obtain ⟨q, b, T, nr, C, m, pm, s, h⟩ := h
  have ho := h.2.2.2.2.2.2
  obtain ⟨L, l1, l2, l3, l4, l5⟩ := ho.2.2.2.2.1
  have bad : ∀ r1 r2, r1 = fX11_end_15 n0 MX → r2 = fX12_end_12 n0 MY → Cal n0 r1 r2 := fun r1 r2 e1 e2 => by
    refine Cal.ref (k := 0) h0 (by decide) (r := 0) ?_ ?_
    · rw [e1]
      unfold fX11_end_15
      exact eq_b (xref (k := 0) (by decide)) rfl
    · rw [e2]
      unfold fX12_end_12
      exact eq_b (yref (k := 0) (by decide)) (eq_t (show (-1 : Int32) < 0 by decide) rfl)
  unfold fX11_end fX12_end
  rw [l2, l3]
  by_cases g : x < 0
  · rw [if_pos g, if_pos g]; exact bad _ _ rfl rfl
  · by_cases g2 : x ≤ nI L
    · obtain ⟨k, hk, rfl⟩ := nI_of2 (M := nI L) (n := L) (nI_toInt (by omega)) g g2
      rw [if_neg g, if_neg g, if_pos g2, if_pos g2]
      refine ⟨1, sI MX 641 (nI k), sI MY 1 (nI k), rfl, rfl, q, b, T, nr, C, m, pm, s, h.ou ⟨rfl, fun k z => gI_ne (by omega), fun _ _ => rfl⟩ ⟨fun k z => gI_ne (by omega), fun _ _ => rfl, rfl⟩ ⟨ho.1, ho.2.1, ho.2.2.1, ho.2.2.2.1, ⟨k, by omega, gI_at, gI_at, l4, fun i hi => l5 i (by omega)⟩, ho.2.2.2.2.2⟩⟩
    · rw [if_neg g, if_neg g, if_neg g2, if_neg g2]; exact bad _ _ rfl rfl
theorem cSeed {n0 : Nat} {x : Int32} {MX MY : Mem} (h : R n0 MX MY) : Cal n0 (fX11_seed n0 x MX) (fX12_seed n0 x MY) := by
  have h0 := h
  obtain ⟨q, b, T, nr, C, m, pm, s, h⟩ := h
  have ho := h.2.2.2.2.2.2
  unfold fX11_seed fX12_seed
  by_cases g : 0 ≤ x
  · rw [if_pos g, if_pos g]
    refine ⟨1, sI MX 17 x, sL MY 55 x.toInt64, rfl, rfl, q, b, T, nr, C, m, pm, s, h.ou ⟨rfl, fun k z => gI_ne (by omega), fun _ _ => rfl⟩ ⟨fun _ _ => rfl, fun _ _ => rfl, rfl⟩ ⟨⟨x.toInt.toNat, ?_, ?_, ?_⟩, ho.2.1, ho.2.2.1, ho.2.2.2.1, ho.2.2.2.2.1, ho.2.2.2.2.2⟩⟩
    · have := Int32.toInt_lt x
      have : (2147483648 : Int) = 2 ^ 31 := by decide
      omega
    · have g' : 0 ≤ x.toInt := by rw [i_le] at g; exact g
      rw [gI_at, nz, Int.toNat_of_nonneg g', zI_of]
    · have g' : 0 ≤ x.toInt := by rw [i_le] at g; exact g
      show gL (sL MY 55 x.toInt64) 55 = _
      rw [gL_sL, if_pos rfl, Int.toNat_of_nonneg g']
      have h1 := Int32.toInt_lt x
      have h2 := Int32.le_toInt x
      rw [← zI_long (by omega) (by omega), zI_of]
  · rw [if_neg g, if_neg g]
    exact Cal.ref (k := 5) h0 (by decide) (r := 0) (eq_b (xref (k := 5) (by decide)) rfl) (eq_b (yref (k := 5) (by decide)) (eq_t (show (-1 : Int32) < 0 by decide) rfl))
theorem cFault {n0 : Nat} {x : Int32} {MX MY : Mem} (h : R n0 MX MY) : Cal n0 (fX11_fault n0 x MX) (fX12_fault n0 x MY) := by
  have h0 := h
  obtain ⟨q, b, T, nr, C, m, pm, s, h⟩ := h
  have ho := h.2.2.2.2.2.2
  unfold fX11_fault fX12_fault
  rw [← ho.2.2.2.1.1, ← ho.2.2.2.1.2]
  by_cases g : x = 0
  · exact Cal.same h0 (eq_t g rfl) (eq_t g rfl)
  · by_cases g2 : x = 1
    · exact Cal.same h0 (eq_f g (eq_t g2 rfl)) (eq_f g (eq_t g2 rfl))
    · exact Cal.same h0 (eq_f g (eq_f g2 rfl)) (eq_f g (eq_f g2 rfl))
theorem cStatus {n0 : Nat} {x : Int32} {MX MY : Mem} (h : R n0 MX MY) : Cal n0 (fX11_status n0 x MX) (fX12_status n0 x MY) := by
  have h0 := h
  obtain ⟨q, b, T, nr, C, m, pm, s, h⟩ := h
  have ho := h.2.2.2.2.2.2
  unfold fX11_status fX12_status
  rcases yisc (n0 := n0) 6 (x := x) (hi := 5) (by decide) (by decide) with ⟨k, hk, rfl, e⟩ | ⟨z, e⟩
  · have ck : (nI k).toNatClampNeg = k := nI_clamp (by omega)
    refine Cal.same (r := gA MX 30 k) h0 (eq_f (nI_nn (by omega)) (eq_f (nI_ge (b := 6) hk (by decide)) (eq_f (nI_in hk (by decide)) ?_))) (eq_b (e MY) (eq_f (show ¬ (1 : Int32) = 0 by decide) (eq_f (nI_in hk (by decide)) ?_)))
    · rw [ck]
    · rw [ck, ho.2.2.1 k hk]
  · refine Cal.same (r := -1) h0 ?_ (eq_b (e MY) (eq_t rfl rfl))
    by_cases g : x < 0
    · exact eq_t g rfl
    · exact eq_f g (eq_t (z.resolve_left g) rfl)
theorem cOctet {n0 : Nat} {x : Int32} {MX MY : Mem} (h : R n0 MX MY) : Cal n0 (fX11_octet n0 x MX) (fX12_octet n0 x MY) := by
  have h0 := h
  obtain ⟨q, b, T, nr, C, m, pm, s, h⟩ := h
  have ho := h.2.2.2.2.2.2
  obtain ⟨n, n1, n2, n3, n4⟩ := ho.2.1
  unfold fX11_octet fX12_octet
  rw [n2, n3]
  rcases yisc (n0 := n0) n (x := x) (hi := nI n - 1) (by omega) rfl with ⟨k, hk, rfl, e⟩ | ⟨z, e⟩
  · have ck : (nI k).toNatClampNeg = k := nI_clamp (by omega)
    refine Cal.same (r := gA MX 29 k) h0 (eq_f (nI_nn (by omega)) (eq_f (nI_ge hk (by omega)) (eq_f (nI_in (by omega) (by decide)) ?_))) (eq_b (e MY) (eq_f (show ¬ (1 : Int32) = 0 by decide) (eq_f (nI_in (by omega) (by decide)) ?_)))
    · rw [ck]
    · rw [ck, n4 k hk]
  · refine Cal.same (r := -1) h0 ?_ (eq_b (e MY) (eq_t rfl rfl))
    by_cases g : x < 0
    · exact eq_t g rfl
    · exact eq_f g (eq_t (z.resolve_left g) rfl)
theorem cKept {n0 : Nat} {x y : Int32} {MX MY : Mem} (h : R n0 MX MY) : Cal n0 (fX11_kept n0 x y MX) (fX12_kept n0 x y MY) := by
  have h0 := h
  obtain ⟨q, b, T, nr, C, m, pm, s, h⟩ := h
  obtain ⟨h1, h2, h3, h4, _⟩ := h
  have hl := h2.2.2.l
  have kx := h3.2.2.2.2.2
  have ky := h4.2.2
  unfold fX11_kept fX12_kept
  rw [kx.1, show gA MY 32 (Int32.toNatClampNeg 0) = nI s.2.length from ky.1]
  rcases yisc (n0 := n0) s.2.length (x := x) (hi := nI s.2.length - 1) (by omega) rfl with ⟨k, hk, rfl, e⟩ | ⟨z, e⟩
  · have ck : (nI k).toNatClampNeg = k := nI_clamp (by omega)
    obtain ⟨p, hp⟩ : ∃ p, s.2[k]? = some p := ⟨_, List.getElem?_eq_getElem hk⟩
    have kx2 := kx.2 k p hp
    have ky2 := ky.2 k p hp
    rcases yisc (n0 := n0) 2 (x := y) (hi := 1) (by decide) (by decide) with ⟨j, hj, rfl, e2⟩ | ⟨z2, e2⟩
    · have cj : (nI (2 * k + j)).toNatClampNeg = 2 * k + j := nI_clamp (by omega)
      have oj : ¬ oob ((2 : Int32) * nI k + nI j) 1760 := by rw [y2Ix]; exact nI_in (by omega) (by decide)
      have ok : ¬ oob (nI k) 6 := nI_in (by omega) (by decide)
      rcases Nat.lt_or_ge j 1 with g | g
      · have e0 : j = 0 := by omega
        subst e0
        refine Cal.same (r := nI p.1) h0 (eq_f (nI_nn (by omega)) (eq_t (nI_lt hk (by omega)) (eq_t rfl (eq_f ok ?_)))) (eq_f (by decide) (eq_b (e MY) (eq_f (show ¬ (1 : Int32) = 0 by decide) (eq_b (e2 MY) (eq_f (show ¬ (1 : Int32) = 0 by decide) (eq_f oj ?_))))))
        · rw [ck, kx2.1]
        · rw [y2Ix, cj, show 2 * k + 0 = 80 * 0 + 2 * k by omega, ky2.1]
      · have e0 : j = 1 := by omega
        subst e0
        refine Cal.same (r := nI p.2) h0 (eq_f (nI_nn (by omega)) (eq_t (nI_lt hk (by omega)) (eq_f (by decide) (eq_t rfl (eq_f ok ?_))))) (eq_f (by decide) (eq_b (e MY) (eq_f (show ¬ (1 : Int32) = 0 by decide) (eq_b (e2 MY) (eq_f (show ¬ (1 : Int32) = 0 by decide) (eq_f oj ?_))))))
        · rw [ck, kx2.2]
        · rw [y2Ix, cj, show 2 * k + 1 = 80 * 0 + 2 * k + 1 by omega, ky2.2]
    · refine Cal.same (r := -1) h0 (eq_f (nI_nn (by omega)) (eq_t (nI_lt hk (by omega)) (eq_f ?_ (eq_f ?_ rfl)))) (eq_f (by decide) (eq_b (e MY) (eq_f (show ¬ (1 : Int32) = 0 by decide) (eq_b (e2 MY) (eq_t rfl rfl)))))
      · rintro rfl; exact absurd z2 (by decide)
      · rintro rfl; exact absurd z2 (by decide)
  · refine Cal.same (r := -1) h0 ?_ (eq_f (by decide) (eq_b (e MY) (eq_t rfl rfl)))
    by_cases g : x < 0
    · exact eq_t g rfl
    · refine eq_f g (eq_f (fun z2 => ?_) rfl)
      have z3 := z.resolve_left g
      rw [i_le] at z3
      rw [i_lt] at z2
      omega
theorem cThing {n0 : Nat} {x y : Int32} {MX MY : Mem} (h : R n0 MX MY) : Cal n0 (fX11_thing n0 x y MX) (fX12_thing n0 x y MY) := by
  have h0 := h
  obtain ⟨q, b, T, nr, C, m, pm, s, h⟩ := h
  have h1 := h.1
  unfold fX11_thing fX12_thing
  rcases isTh h1 x with ⟨k, hk, rfl, e1, e2⟩ | ⟨z, e1, e2⟩
  · have o1 := h1.2.2.2.1.2.1.1
    have hb := h1.2.2.2.2.1.2.2.1
    have h13 := h1.2.2.2.2.1.2.2.2.1
    have ck : (nI k).toNatClampNeg = k := nI_clamp (by omega)
    have cj : (nI (6 * b + k)).toNatClampNeg = 6 * b + k := nI_clamp (by omega)
    have oj : ¬ oob ((6 : Int32) * gI MY 13 + nI k) 12 := by rw [h13, y6Ix]; exact nI_in (by omega) (by decide)
    have ok : ¬ oob (nI k) 6 := nI_in (by omega) (by decide)
    obtain ⟨t1, _, t2, _⟩ := h1.2.2.2.2.2.1.2.1 k hk
    by_cases g : y = 0
    · refine Cal.same (r := gA MX (q + 2) k) h0 (eq_b e1 (eq_f (show ¬ (1 : Int32) = 0 by decide) (eq_t g (eq_f ok ?_)))) (eq_b e2 (eq_f (show ¬ (1 : Int32) = 0 by decide) (eq_t g (eq_f oj ?_))))
      · show some (gA MX (gR MX 1 + 2) (nI k).toNatClampNeg, MX) = _
        rw [ck, h1.2.1]
      · show some (gA MY 3 ((6 : Int32) * gI MY 13 + nI k).toNatClampNeg, MY) = _
        rw [h13, y6Ix, cj, t1]
    · by_cases g2 : y = 1
      · refine Cal.same (r := gA MX (q + 3) k) h0 (eq_b e1 (eq_f (show ¬ (1 : Int32) = 0 by decide) (eq_f g (eq_t g2 (eq_f ok ?_))))) (eq_b e2 (eq_f (show ¬ (1 : Int32) = 0 by decide) (eq_f g (eq_t g2 (eq_f oj ?_)))))
        · show some (gA MX (gR MX 1 + 3) (nI k).toNatClampNeg, MX) = _
          rw [ck, h1.2.1]
        · show some (gA MY 4 ((6 : Int32) * gI MY 13 + nI k).toNatClampNeg, MY) = _
          rw [h13, y6Ix, cj, t2]
      · exact Cal.same (r := -1) h0 (eq_b e1 (eq_f (show ¬ (1 : Int32) = 0 by decide) (eq_f g (eq_f g2 rfl)))) (eq_b e2 (eq_f (show ¬ (1 : Int32) = 0 by decide) (eq_f g (eq_f g2 rfl))))
  · exact Cal.same (r := -1) h0 (eq_b e1 (eq_t rfl rfl)) (eq_b e2 (eq_t rfl rfl))
theorem xlook {n0 q k m : Nat} {T : TP} {pm : Nat → Int32 × Nat} {s : Nat × List (Nat × Nat)} {M : Mem} (hS : SX q T.nc T.nd m pm s M) (h5 : T.nc ≤ 5) (hk : k < T.nc) : fX11_lookAt n0 (nI k) M = some (hld M (nI k) (pm k).1 (nI (pm k).2) (nI m)) := by
  have ck : (nI k).toNatClampNeg = k := nI_clamp (by omega)
  have ok : ¬ oob (nI k) 5 := nI_in (by omega) (by decide)
  unfold fX11_lookAt
  refine eq_f ok (eq_f ok (eq_b (z := hld M (nI k) (pm k).1 (nI (pm k).2) (nI m)) ?_ rfl))
  rw [ck, (hS.2.2.2.1 k hk).1, (hS.2.2.2.1 k hk).2, hS.2.2.1]
  exact xhold
theorem xhourAt {n0 q k m : Nat} {T : TP} {pm : Nat → Int32 × Nat} {s : Nat × List (Nat × Nat)} {M : Mem} (hT : XT n0 q T M) (hS : SX q T.nc T.nd m pm s M) (hO : PsO T.nt T.nc pm) (hm : m ≤ 20000) (hk : k < T.nc) : ∃ M', fX11_hourAt n0 (nI k) M = some (nI (T.hF k (pm k).1 (pm k).2 m), M') ∧ XF noN M M' := by
  have h5 := hT.2.1.2.1
  have f1 : XF noN M (hld M (nI k) (pm k).1 (nI (pm k).2) (nI m)) := hld_f
  have o := hO k hk
  obtain ⟨_, M2, e1, e2, e3⟩ := xhr (hT.1.xf f1 (fun _ z => z.elim)) (hld_p hS.1) ⟨by omega, o.1, o.2, hm⟩
  refine ⟨M2, ?_, f1.tr e3⟩
  unfold fX11_hourAt
  exact eq_b (xlook hS h5 hk) (eq_b e1 rfl)
theorem cCorner {n0 : Nat} {x y : Int32} {MX MY : Mem} (h : R n0 MX MY) : Cal n0 (fX11_corner n0 x y MX) (fX12_corner n0 x y MY) := by
  have h0 := h
  obtain ⟨q, b, T, nr, C, m, pm, s, h⟩ := h
  obtain ⟨h1, h2, h3, h4, _⟩ := id h
  unfold fX11_corner fX12_corner
  rcases isCo h1 x with ⟨k, hk, rfl, e1, e2⟩ | ⟨z, e1, e2⟩
  · have o1 := h1.2.2.2.1.2.1.2.1
    have ck : (nI k).toNatClampNeg = k := nI_clamp (by omega)
    have ok : ¬ oob (nI k) 5 := nI_in (by omega) (by decide)
    have oj : ¬ oob (nI k) 110 := nI_in (by omega) (by decide)
    have px := h3.2.2.2.1 k hk
    have py := h4.1.2 k hk
    rw [show 5 * 0 + k = k by omega] at py
    by_cases g : y = 0
    · refine Cal.same (r := (pm k).1) h0 (eq_b e1 (eq_f (show ¬ (1 : Int32) = 0 by decide) (eq_t g (eq_f ok ?_)))) (eq_b e2 (eq_f (show ¬ (1 : Int32) = 0 by decide) (eq_t g (eq_f oj ?_))))
      · rw [ck, px.1]
      · rw [ck, py.1]
    · by_cases g2 : y = 1
      · refine Cal.same (r := nI (pm k).2) h0 (eq_b e1 (eq_f (show ¬ (1 : Int32) = 0 by decide) (eq_f g (eq_t g2 (eq_f ok ?_))))) (eq_b e2 (eq_f (show ¬ (1 : Int32) = 0 by decide) (eq_f g (eq_t g2 (eq_f oj ?_)))))
        · rw [ck, px.2]
        · rw [ck, py.2]
      · by_cases g3 : y = 2
        · obtain ⟨M1, a1, a2⟩ := xhourAt h1.2.2.2.1 h3 h2.2.1 (by omega) hk
          obtain ⟨_, M2, b1, b2⟩ := yhr h1.2.2.2.2.1 (v := 0) (by decide) h4.1 h2.2.1 (by omega) hk
          exact Cal.scr h (eq_b e1 (eq_f (show ¬ (1 : Int32) = 0 by decide) (eq_f g (eq_f g2 (eq_t g3 (eq_b a1 rfl)))))) (eq_b e2 (eq_f (show ¬ (1 : Int32) = 0 by decide) (eq_f g (eq_f g2 (eq_t g3 (eq_b b1 rfl)))))) a2.n b2.y
        · exact Cal.same (r := -1) h0 (eq_b e1 (eq_f (show ¬ (1 : Int32) = 0 by decide) (eq_f g (eq_f g2 (eq_f g3 rfl))))) (eq_b e2 (eq_f (show ¬ (1 : Int32) = 0 by decide) (eq_f g (eq_f g2 (eq_f g3 rfl)))))
  · exact Cal.same (r := -1) h0 (eq_b e1 (eq_t rfl rfl)) (eq_b e2 (eq_t rfl rfl))
theorem cDoing {n0 : Nat} {x y : Int32} {MX MY : Mem} (h : R n0 MX MY) : Cal n0 (fX11_doing n0 x y MX) (fX12_doing n0 x y MY) := by
  have h0 := h
  obtain ⟨q, b, T, nr, C, m, pm, s, h⟩ := h
  obtain ⟨h1, h2, h3, h4, _⟩ := id h
  unfold fX11_doing fX12_doing
  rcases isDo h1 x with ⟨k, hk, rfl, e1, e2⟩ | ⟨z, e1, e2⟩
  · have o1 := h1.2.2.2.1.2.1.2.2.1
    have hb := h1.2.2.2.2.1.2.2.1
    have h13 := h1.2.2.2.2.1.2.2.2.1
    have ck : (nI k).toNatClampNeg = k := nI_clamp (by omega)
    have cj : (nI (6 * b + k)).toNatClampNeg = 6 * b + k := nI_clamp (by omega)
    have oj : ¬ oob ((6 : Int32) * gI MY 13 + nI k) 12 := by rw [h13, y6Ix]; exact nI_in (by omega) (by decide)
    have ok : ¬ oob (nI k) 6 := nI_in (by omega) (by decide)
    have dx := h1.2.2.2.1.2.2.2.2 k hk
    have dy := h1.2.2.2.2.1.2.2.2.2.2.2.2 k hk
    by_cases g : y = 0
    · refine Cal.same (r := nI (T.dc k)) h0 (eq_b e1 (eq_f (show ¬ (1 : Int32) = 0 by decide) (eq_t g (eq_f ok ?_)))) (eq_b e2 (eq_f (show ¬ (1 : Int32) = 0 by decide) (eq_t g (eq_f oj ?_))))
      · show some (gA MX (gR MX 1 + 10) (nI k).toNatClampNeg, MX) = _
        rw [ck, h1.2.1, dx.1]
      · show some (gA MY 11 ((6 : Int32) * gI MY 13 + nI k).toNatClampNeg, MY) = _
        rw [h13, y6Ix, cj, dy.1]
    · by_cases g2 : y = 1
      · refine Cal.same (r := nI (T.dh k)) h0 (eq_b e1 (eq_f (show ¬ (1 : Int32) = 0 by decide) (eq_f g (eq_t g2 (eq_f ok ?_))))) (eq_b e2 (eq_f (show ¬ (1 : Int32) = 0 by decide) (eq_f g (eq_t g2 (eq_f oj ?_)))))
        · show some (gA MX (gR MX 1 + 11) (nI k).toNatClampNeg, MX) = _
          rw [ck, h1.2.1, dx.2]
        · show some (gA MY 12 ((6 : Int32) * gI MY 13 + nI k).toNatClampNeg, MY) = _
          rw [h13, y6Ix, cj, dy.2]
      · by_cases g3 : y = 2
        · have s64 : s.1 < 64 := Nat.lt_of_lt_of_le h2.2.2.1 (p64 o1)
          refine Cal.same (r := nI (s.1 / 2 ^ k % 2)) h0 (eq_b e1 (eq_f (show ¬ (1 : Int32) = 0 by decide) (eq_f g (eq_f g2 (eq_t g3 (eq_f ok ?_)))))) (eq_b e2 (eq_f (show ¬ (1 : Int32) = 0 by decide) (eq_f g (eq_f g2 (eq_t g3 (eq_f (by decide) (eq_b (z := (bI (s.1 / 2 ^ k % 2 = 1), MY)) ?_ ?_)))))))
          · rw [ck, h3.2.2.2.2.1 k hk]
          · show fX12_has2 n0 (gA MY 31 0) (nI k) MY = _
            rw [h4.2.1]
            exact yhas2 s64 (by omega)
          · by_cases g4 : s.1 / 2 ^ k % 2 = 1
            · exact eq_f (show ¬ bI (s.1 / 2 ^ k % 2 = 1) = 0 by rw [bI_t g4]; decide) (by rw [g4]; rfl)
            · exact eq_t (show bI (s.1 / 2 ^ k % 2 = 1) = 0 from bI_f g4) (by rw [show s.1 / 2 ^ k % 2 = 0 by omega]; rfl)
        · exact Cal.same (r := -1) h0 (eq_b e1 (eq_f (show ¬ (1 : Int32) = 0 by decide) (eq_f g (eq_f g2 (eq_f g3 rfl))))) (eq_b e2 (eq_f (show ¬ (1 : Int32) = 0 by decide) (eq_f g (eq_f g2 (eq_f g3 rfl)))))
  · exact Cal.same (r := -1) h0 (eq_b e1 (eq_t rfl rfl)) (eq_b e2 (eq_t rfl rfl))
end
section
/-! MORE PLAIN CALLS: feed, has -/
theorem nI_div {a b : Nat} (ha : a < 2 ^ 31) (hb : b < 2 ^ 31) : nI a / nI b = nI (a / b) := by
  rw [nz, nz, nz, Int.ofNat_tdiv]
  exact (Int32.ofInt_tdiv (by show (-2147483648 : Int) ≤ a; omega) (by show (a : Int) ≤ 2147483647; omega) (by show (-2147483648 : Int) ≤ b; omega) (by show (b : Int) ≤ 2147483647; omega)).symm
theorem rem_nI {a b : Nat} (ha : a < 2 ^ 31) (hb : b < 2 ^ 31) : rem32 (nI a) (nI b) = nI (a % b) := by
  unfold rem32
  rw [nI_div ha hb, nI_mul, nI_subN (Nat.div_mul_le_self a b)]
  congr 1
  have := Nat.mod_add_div a b
  rw [Nat.mul_comm] at this
  omega
def TpR (L : Nat) (MX MY : Mem) : Prop := L ≤ 1600 ∧ gI MX 641 = nI L ∧ gI MY 1 = nI L ∧ gA MY 1 = gA MX 6 ∧ Byt (gA MX 6) L
def XTp (M M' : Mem) : Prop := gR M' = gR M ∧ (∀ k, ¬ k = 641 → gI M' k = gI M k) ∧ ∀ a, ¬ a = 6 → gA M' a = gA M a
def YTp (M M' : Mem) : Prop := gL M' = gL M ∧ (∀ k, ¬ k = 1 → gI M' k = gI M k) ∧ (∀ a, ¬ a = 1 → gA M' a = gA M a) ∧ gB M' = gB M
theorem XTp.tr {M M' M2 : Mem} (h : XTp M M') (g : XTp M' M2) : XTp M M2 := ⟨g.1.trans h.1, fun k z => (g.2.1 k z).trans (h.2.1 k z), fun k z => (g.2.2 k z).trans (h.2.2 k z)⟩
theorem YTp.tr {M M' M2 : Mem} (h : YTp M M') (g : YTp M' M2) : YTp M M2 := ⟨g.1.trans h.1, fun k z => (g.2.1 k z).trans (h.2.1 k z), fun k z => (g.2.2.1 k z).trans (h.2.2.1 k z), g.2.2.2.trans h.2.2.2⟩
abbrev xaL (n0 : Nat) : Nat → Int32 → Int32 → Mem → Option Mem := loopN (bX7_addNumber_3 n0) (fun _ _ _ => none)
abbrev ypL (n0 : Nat) : Nat → Int32 → Int32 → Mem → Option Mem := loopN (bX12_put_3 n0) (fun _ _ _ => none)
theorem put1 {n0 L : Nat} {x1 x2 : Int32} {MX MY : Mem} (h : TpR L MX MY) (hL : L < 1600) (h2 : ¬ x2 < 0) : ∃ MX' MY', (∀ w, xaL n0 (w + 1) x1 x2 MX = xaL n0 w x1 (x2 + (-8)) MX') ∧ (∀ w, ypL n0 (w + 1) x1 x2 MY = ypL n0 w x1 (x2 + (-8)) MY') ∧ TpR (L + 1) MX' MY' ∧ XTp MX MX' ∧ YTp MY MY' := by
  obtain ⟨l1, l2, l3, l4, l5⟩ := h
  have cL : (nI L).toNatClampNeg = L := nI_clamp (by omega)
  have L1 : nI L + 1 = nI (L + 1) := nI_add L 1
  refine ⟨sI (sA MX 6 L ((x1 >>> (x2 &&& 31)) &&& 255)) 641 (nI (L + 1)), sI (sA MY 1 L ((x1 >>> (x2 &&& 31)) &&& 255)) 1 (nI (L + 1)), fun w => ?_, fun w => ?_, ⟨by omega, gI_at, gI_at, ?_, fun i hi => ?_⟩, ⟨rfl, fun k z => gI_ne z, fun a z => gA_sA_ne z⟩, ⟨rfl, fun k z => gI_ne z, fun a z => gA_sA_ne z, rfl⟩⟩
  · show bX7_addNumber_3 n0 (xaL n0 w) x1 x2 MX = _
    unfold bX7_addNumber_3
    refine eq_f h2 (eq_f (by rw [l2]; exact nI_ge (b := 1600) hL (by decide)) (eq_f (by rw [l2]; exact nI_in hL (by decide)) ?_))
    unfold fX7_addNumber_43
    simp only [bnd, gI_sA, l2, cL, L1]
  · show bX12_put_3 n0 (ypL n0 w) x1 x2 MY = _
    unfold bX12_put_3
    refine eq_f h2 (eq_f (by rw [l3]; exact nI_in (by omega) (by decide)) ?_)
    simp only [bnd, gI_sA, l3, cL, L1]
  · show gA (sA MY 1 L _) 1 = gA (sA MX 6 L _) 6
    funext i
    rw [gA_sA, if_pos rfl, gA_sA, if_pos rfl, l4]
  · show 0 ≤ gA (sA MX 6 L _) 6 i ∧ gA (sA MX 6 L _) 6 i ≤ 255
    rw [gA_sA, if_pos rfl]
    by_cases g : i = L
    · rw [if_pos g]
      obtain ⟨k, hk, e⟩ := n255 (x1 >>> (x2 &&& 31))
      rw [e]
      exact ⟨nI_le (a := 0) (by omega) (by omega), nI_le (b := 255) (by omega) (by decide)⟩
    · rw [if_neg g]
      exact l5 i (by omega)
theorem num1 {n0 L : Nat} {x : Int32} {MX MY : Mem} (hn : 1700 ≤ n0) (h : TpR L MX MY) (hL : L + 4 ≤ 1600) : ∃ MX' MY', fX7_addNumber n0 x MX = some MX' ∧ fX12_put n0 x MY = some MY' ∧ TpR (L + 4) MX' MY' ∧ XTp MX MX' ∧ YTp MY MY' := by
  obtain ⟨w, rfl⟩ : ∃ w, n0 = w + 5 := ⟨n0 - 5, by omega⟩
  obtain ⟨X1, Y1, a1, a2, a3, a4, a5⟩ := put1 (n0 := w + 5) (x1 := x) (x2 := 24) h (by omega) (by decide)
  obtain ⟨X2, Y2, b1, b2, b3, b4, b5⟩ := put1 (n0 := w + 5) (x1 := x) (x2 := 24 + (-8)) a3 (by omega) (by decide)
  obtain ⟨X3, Y3, c1, c2, c3, c4, c5⟩ := put1 (n0 := w + 5) (x1 := x) (x2 := 24 + (-8) + (-8)) b3 (by omega) (by decide)
  obtain ⟨X4, Y4, d1, d2, d3, d4, d5⟩ := put1 (n0 := w + 5) (x1 := x) (x2 := 24 + (-8) + (-8) + (-8)) c3 (by omega) (by decide)
  refine ⟨X4, Y4, ?_, ?_, d3, a4.tr (b4.tr (c4.tr d4)), a5.tr (b5.tr (c5.tr d5))⟩
  · show xaL (w + 5) (w + 4 + 1) x 24 MX = _
    rw [a1 (w + 4), b1 (w + 3), c1 (w + 2), d1 (w + 1)]
    show bX7_addNumber_3 (w + 5) (xaL (w + 5) w) x _ X4 = _
    unfold bX7_addNumber_3
    exact eq_t (by decide) rfl
  · show ypL (w + 5) (w + 4 + 1) x 24 MY = _
    rw [a2 (w + 4), b2 (w + 3), c2 (w + 2), d2 (w + 1)]
    show bX12_put_3 (w + 5) (ypL (w + 5) w) x _ Y4 = _
    unfold bX12_put_3
    exact eq_t (by decide) rfl
theorem cFeed {n0 : Nat} {x1 x2 x3 x4 x5 : Int32} {MX MY : Mem} (hn : 1700 ≤ n0) (h : R n0 MX MY) : Cal n0 (fX11_feed n0 x1 x2 x3 x4 x5 MX) (fX12_feed n0 x1 x2 x3 x4 x5 MY) := by
  have h0 := h
  obtain ⟨q, b, T, nr, C, m, pm, s, h⟩ := h
  have ho := h.2.2.2.2.2.2
  obtain ⟨L, l⟩ := ho.2.2.2.2.1
  have e20 : nI L + 20 = nI (L + 20) := nI_add L 20
  have l1 := l.1
  unfold fX11_feed fX12_feed
  by_cases g : L + 20 ≤ 1600
  · obtain ⟨X1, Y1, a1, a2, a3, a4, a5⟩ := num1 (x := x1) hn l (by omega)
    obtain ⟨X2, Y2, b1, b2, b3, b4, b5⟩ := num1 (x := x2) hn a3 (by omega)
    obtain ⟨X3, Y3, c1, c2, c3, c4, c5⟩ := num1 (x := x3) hn b3 (by omega)
    obtain ⟨X4, Y4, d1, d2, d3, d4, d5⟩ := num1 (x := x4) hn c3 (by omega)
    obtain ⟨X5, Y5, e1, e2, e3, e4, e5⟩ := num1 (x := x5) hn d3 (by omega)
    have fx := a4.tr (b4.tr (c4.tr (d4.tr e4)))
    have fy := a5.tr (b5.tr (c5.tr (d5.tr e5)))
    have er : fX7_hasRoomFor n0 20 MX = some (1, MX) := by
      unfold fX7_hasRoomFor
      rw [l.2.1, e20]
      exact eq_f (fun z => by have := (nI_ltI (a := 1600) (b := L + 20) (by decide) (by omega)).mp z; omega) rfl
    refine ⟨nI (L + 20), X5, Y5, ?_, ?_, q, b, T, nr, C, m, pm, s, h.ou ⟨fx.1, fun k z => fx.2.1 k (by omega), fun a z => fx.2.2 a (by omega)⟩ ⟨fun k z => fy.2.1 k (by omega), fun a z => fy.2.2.1 a (by omega), fy.2.2.2⟩ ⟨ho.1.cg (fx.2.1 17 (by decide)) (by rw [fy.1]), ho.2.1.cg (fx.2.1 14 (by decide)) (fy.2.1 67 (by decide)) (fx.2.2 29 (by decide)) (fy.2.2.1 43 (by decide)), ho.2.2.1.cg (fx.2.2 30 (by decide)) (fy.2.2.1 27 (by decide)), ho.2.2.2.1.cg (fx.2.1 15 (by decide)) (fx.2.1 16 (by decide)) (fy.2.1 10 (by decide)) (fy.2.1 11 (by decide)), ⟨_, e3⟩, ho.2.2.2.2.2.cg (fx.2.2 4 (by decide))⟩⟩
    · refine eq_b er (eq_f (show ¬ (1 : Int32) = 0 by decide) (eq_b a1 (eq_b b1 (eq_b c1 (eq_b d1 (eq_b e1 ?_))))))
      rw [e3.2.1]
    · refine eq_t (by rw [l.2.2.1, e20]; exact nI_le (b := 1600) g (by decide)) (eq_b a2 (eq_b b2 (eq_b c2 (eq_b d2 (eq_b e2 ?_)))))
      rw [e3.2.2.1]
  · have er : fX7_hasRoomFor n0 20 MX = some (0, MX) := by
      unfold fX7_hasRoomFor
      rw [l.2.1, e20]
      exact eq_t (nI_lt (a := 1600) (by omega) (by omega)) rfl
    exact Cal.ref (k := 0) (r := -1) h0 (by decide) (eq_b er (eq_t rfl (eq_b (xref (k := 0) (by decide)) rfl))) (eq_f (by rw [l.2.2.1, e20]; exact nI_ge (b := L + 20) (a := 1600) (by omega) (by omega)) (eq_b (yref (k := 0) (by decide)) rfl))
-- how many are done
def sm (D : Nat) : Nat → Nat
  | 0 => 0
  | d + 1 => sm D d + D / 2 ^ d % 2
theorem sm_pc : ∀ n, n < 7 → ∀ D, D < 2 ^ n → sm D n = pc D := by decide +kernel
theorem sm_le (D : Nat) : ∀ d, sm D d ≤ d
  | 0 => Nat.le_refl _
  | d + 1 => by
    have := sm_le D d
    show sm D d + D / 2 ^ d % 2 ≤ d + 1
    omega
theorem bt_clr : ∀ D, D < 64 → ¬ D = 0 → nI D &&& (nI D - 1) = nI (D &&& (D - 1)) ∧ (D &&& (D - 1)) < 64 ∧ pc D = pc (D &&& (D - 1)) + 1 := by decide +kernel
theorem ybits {n0 : Nat} {M : Mem} : ∀ w a D, D < 64 → pc D < w → loopN (bX12_bits_4 n0) (fun _ _ _ => none) w (nI a) (nI D) M = some (nI (a + pc D), M)
  | 0, _, _, _, h => by omega
  | w + 1, a, D, hD, h => by
    show bX12_bits_4 n0 (loopN (bX12_bits_4 n0) (fun _ _ _ => none) w) (nI a) (nI D) M = _
    unfold bX12_bits_4
    by_cases g : D = 0
    · rw [g]
      exact eq_t rfl rfl
    · obtain ⟨c1, c2, c3⟩ := bt_clr D hD g
      refine eq_f (nI_ne0 (by omega) (by omega)) (eq_e c1 ?_)
      rw [show nI a + 1 = nI (a + 1) from nI_add a 1, show a + pc D = a + 1 + pc (D &&& (D - 1)) by omega]
      exact ybits (n0 := n0) w (a + 1) (D &&& (D - 1)) c2 (by omega)
theorem xcd {n0 q m : Nat} {T : TP} {pm : Nat → Int32 × Nat} {s : Nat × List (Nat × Nat)} {M : Mem} (hT : XT n0 q T M) (hS : SX q T.nc T.nd m pm s M) : ∀ w d, d ≤ T.nd → T.nd < w + d → loopN (bX6_countDone_4 n0) (fun _ _ _ => none) w (nI (sm s.1 d)) (nI d) M = some (nI (sm s.1 T.nd), M)
  | 0, _, _, h => by omega
  | w + 1, d, hd, h => by
    show bX6_countDone_4 n0 (loopN (bX6_countDone_4 n0) (fun _ _ _ => none) w) _ (nI d) M = _
    have h6 := hT.2.1.2.2.1
    have q12 : gI M (128 * gR M 1280 + 12) = nI T.nd := by rw [hS.2.1]; exact hT.2.2.2.1
    unfold bX6_countDone_4
    by_cases g : d = T.nd
    · rw [g]
      exact eq_t (by rw [q12]; exact Int32.le_refl _) rfl
    · refine eq_f (by rw [q12]; exact nI_ge (by omega) (by omega)) (eq_f (nI_in (by omega) (by decide)) (eq_e (v' := nI (sm s.1 (d + 1))) ?_ ?_))
      · rw [nI_clamp (by omega), hS.2.2.2.2.1 d (by omega), nI_add]
        rfl
      · rw [show nI d + 1 = nI (d + 1) from nI_add d 1]
        exact xcd hT hS w (d + 1) (by omega) (by omega)
def ce (pm : Nat → Int32 × Nat) : Nat → Nat
  | 0 => 0
  | c + 1 => ce pm c + if (pm c).1 = -1 then 1 else 0
theorem xce {n0 q m : Nat} {T : TP} {pm : Nat → Int32 × Nat} {s : Nat × List (Nat × Nat)} {M : Mem} (hT : XT n0 q T M) (hS : SX q T.nc T.nd m pm s M) : ∀ w c, c ≤ T.nc → T.nc < w + c → loopN (bX6_countEmpty_4 n0) (fun _ _ _ => none) w (nI (ce pm c)) (nI c) M = some (nI (ce pm T.nc), M)
  | 0, _, _, h => by omega
  | w + 1, c, hc, h => by
    show bX6_countEmpty_4 n0 (loopN (bX6_countEmpty_4 n0) (fun _ _ _ => none) w) _ (nI c) M = _
    have h5 := hT.2.1.2.1
    have q5 : gI M (128 * gR M 1280 + 5) = nI T.nc := by rw [hS.2.1]; exact hT.2.2.1
    unfold bX6_countEmpty_4
    by_cases g : c = T.nc
    · rw [g]
      exact eq_t (by rw [q5]; exact Int32.le_refl _) rfl
    · have cc : (nI c).toNatClampNeg = c := nI_clamp (by omega)
      have ih := xce hT hS w (c + 1) (by omega) (by omega)
      have p := (hS.2.2.2.1 c (by omega)).1
      refine eq_f (by rw [q5]; exact nI_ge (by omega) (by omega)) (eq_f (nI_in (by omega) (by decide)) ?_)
      unfold fX6_countEmpty_28
      rw [show nI c + 1 = nI (c + 1) from nI_add c 1]
      by_cases g2 : (pm c).1 = -1
      · refine eq_t (by rw [cc, p]; exact g2) ?_
        rw [show nI (ce pm c) + 1 = nI (ce pm (c + 1)) by rw [show ce pm (c + 1) = ce pm c + 1 by show ce pm c + _ = _; rw [if_pos g2]]; exact nI_add _ 1]
        exact ih
      · refine eq_f (by rw [cc, p]; exact g2) ?_
        rw [show ce pm (c + 1) = ce pm c by show ce pm c + _ = _; rw [if_neg g2]; rfl] at ih
        exact ih
theorem yce {n0 b m : Nat} {T : TP} {pm : Nat → Int32 × Nat} {M : Mem} (hT : YT n0 b T M) (hL : Ly 0 T.nc m pm M) : ∀ w c, c ≤ T.nc → T.nc < w + c → loopN (bX12_has_119 n0) (fun _ _ _ => none) w (nI (ce pm c)) (nI c) M = some (nI (ce pm T.nc), M)
  | 0, _, _, h => by omega
  | w + 1, c, hc, h => by
    show bX12_has_119 n0 (loopN (bX12_has_119 n0) (fun _ _ _ => none) w) _ (nI c) M = _
    have h5 := hT.2.1.2.1
    have hb := hT.2.2.1
    have q5 : gA M 5 (gI M 13).toNatClampNeg = nI T.nc := by rw [hT.2.2.2.1, nI_clamp (by omega)]; exact hT.2.2.2.2.2.1
    have o13 : ¬ oob (gI M 13) 2 := by rw [hT.2.2.2.1]; exact nI_in (by omega) (by decide)
    unfold bX12_has_119
    by_cases g : c = T.nc
    · rw [g]
      exact eq_f o13 (eq_t (by rw [q5]; exact Int32.le_refl _) rfl)
    · have cc : (nI c).toNatClampNeg = c := nI_clamp (by omega)
      have ih := yce hT hL w (c + 1) (by omega) (by omega)
      have p := (hL.2 c (by omega)).1
      rw [show 5 * 0 + c = c by omega] at p
      refine eq_f o13 (eq_f (by rw [q5]; exact nI_ge (by omega) (by omega)) (eq_f (nI_in (by omega) (by decide)) ?_))
      unfold fX12_has_148
      rw [show nI c + 1 = nI (c + 1) from nI_add c 1]
      by_cases g2 : (pm c).1 = -1
      · refine eq_t (by rw [cc, p]; exact g2) (eq_e (v' := nI (ce pm (c + 1))) ?_ ih)
        rw [show ce pm (c + 1) = ce pm c + 1 by show ce pm c + _ = _; rw [if_pos g2]]
        exact nI_add _ 1
      · refine eq_f (by rw [cc, p]; exact g2) (eq_e (v' := nI (ce pm (c + 1))) ?_ ih)
        rw [show ce pm (c + 1) = ce pm c + 0 by show ce pm c + _ = _; rw [if_neg g2]]
        exact nI_add _ 0
theorem cHas {n0 : Nat} {x : Int32} {MX MY : Mem} (hn : 1700 ≤ n0) (h : R n0 MX MY) : Cal n0 (fX11_has n0 x MX) (fX12_has n0 x MY) := by
  have h0 := h
  obtain ⟨q, b, T, nr, C, m, pm, s, h⟩ := h
  obtain ⟨h1, h2, h3, h4, h5, h6, h7⟩ := id h
  obtain ⟨o1, o2, o3, _⟩ := h1.2.2.2.1.2.1
  have hb := h1.2.2.2.2.1.2.2.1
  have h13 := h1.2.2.2.2.1.2.2.2.1
  have cb : (gI MY 13).toNatClampNeg = b := by rw [h13]; exact nI_clamp (by omega)
  have o13 : ¬ oob (gI MY 13) 2 := by rw [h13]; exact nI_in (by omega) (by decide)
  have r1 := h1.2.1
  unfold fX11_has fX12_has
  rw [r1]
  by_cases g0 : x = 0
  · exact Cal.same (r := nI T.nt) h0 (eq_t g0 (by rw [h1.2.2.2.1.1.2.2.1])) (eq_t g0 (eq_f o13 (by rw [cb, h1.2.2.2.2.1.2.2.2.2.1])))
  by_cases g1 : x = 1
  · exact Cal.same (r := nI T.nc) h0 (eq_f g0 (eq_t g1 (by rw [h1.2.2.2.1.2.2.1]))) (eq_f g0 (eq_t g1 (eq_f o13 (by rw [cb, h1.2.2.2.2.1.2.2.2.2.2.1]))))
  by_cases g2 : x = 2
  · exact Cal.same (r := nI nr) h0 (eq_f g0 (eq_f g1 (eq_t g2 (by rw [h1.2.2.2.2.2.1.2.2.2.2.1.1])))) (eq_f g0 (eq_f g1 (eq_t g2 (eq_f o13 (by rw [cb, h1.2.2.2.2.2.1.2.2.2.2.1.2.1])))))
  by_cases g3 : x = 3
  · exact Cal.same (r := nI T.nd) h0 (eq_f g0 (eq_f g1 (eq_f g2 (eq_t g3 (by rw [h1.2.2.2.1.2.2.2.1]))))) (eq_f g0 (eq_f g1 (eq_f g2 (eq_t g3 (eq_f o13 (by rw [cb, h1.2.2.2.2.1.2.2.2.2.2.2.1]))))))
  by_cases g4 : x = 4
  · exact Cal.same (r := nI m) h0 (eq_f g0 (eq_f g1 (eq_f g2 (eq_f g3 (eq_t g4 (by rw [h3.2.2.1])))))) (eq_f g0 (eq_f g1 (eq_f g2 (eq_f g3 (eq_t g4 (eq_f (by decide) (by rw [show gA MY 28 (Int32.toNatClampNeg 0) = nI m from h4.1.1])))))))
  by_cases g5 : x = 5
  · have s64 : s.1 < 64 := Nat.lt_of_lt_of_le h2.2.2.1 (p64 o3)
    have e1 : fX6_countDone n0 MX = some (nI (sm s.1 T.nd), MX) := xcd h1.2.2.2.1 h3 n0 0 (by omega) (by omega)
    have pl := pc_le s.1
    have e2 : fX12_bits n0 (nI s.1) MY = some (nI (0 + pc s.1), MY) := ybits n0 0 s.1 s64 (by omega)
    rw [sm_pc T.nd (by omega) s.1 h2.2.2.1] at e1
    rw [Nat.zero_add] at e2
    exact Cal.same (r := nI (pc s.1)) h0 (eq_f g0 (eq_f g1 (eq_f g2 (eq_f g3 (eq_f g4 (eq_t g5 (eq_b e1 rfl))))))) (eq_f g0 (eq_f g1 (eq_f g2 (eq_f g3 (eq_f g4 (eq_t g5 (eq_f (by decide) (eq_b (by rw [show gA MY 31 (Int32.toNatClampNeg 0) = nI s.1 from h4.2.1]; exact e2) rfl))))))))
  by_cases g6 : x = 6
  · have e1 : fX6_countEmpty n0 MX = some (nI (ce pm T.nc), MX) := xce h1.2.2.2.1 h3 n0 0 (by omega) (by omega)
    have e2 : fX12_has_119 n0 0 0 MY = some (nI (ce pm T.nc), MY) := yce h1.2.2.2.2.1 h4.1 n0 0 (by omega) (by omega)
    exact Cal.same (r := nI (ce pm T.nc)) h0 (eq_f g0 (eq_f g1 (eq_f g2 (eq_f g3 (eq_f g4 (eq_f g5 (eq_t g6 (eq_b e1 rfl)))))))) (eq_f g0 (eq_f g1 (eq_f g2 (eq_f g3 (eq_f g4 (eq_f g5 (eq_t g6 e2)))))))
  by_cases g7 : x = 7
  · exact Cal.same (r := nI s.2.length) h0 (eq_f g0 (eq_f g1 (eq_f g2 (eq_f g3 (eq_f g4 (eq_f g5 (eq_f g6 (eq_t g7 (by rw [h3.2.2.2.2.2.1]))))))))) (eq_f g0 (eq_f g1 (eq_f g2 (eq_f g3 (eq_f g4 (eq_f g5 (eq_f g6 (eq_t g7 (eq_f (by decide) (by rw [show gA MY 32 (Int32.toNatClampNeg 0) = nI s.2.length from h4.2.2.1]))))))))))
  by_cases g8 : x = 8
  · obtain ⟨n, n1, n2, n3, _⟩ := h6
    exact Cal.same (r := nI n) h0 (eq_f g0 (eq_f g1 (eq_f g2 (eq_f g3 (eq_f g4 (eq_f g5 (eq_f g6 (eq_f g7 (eq_t g8 (by rw [n2])))))))))) (eq_f g0 (eq_f g1 (eq_f g2 (eq_f g3 (eq_f g4 (eq_f g5 (eq_f g6 (eq_f g7 (eq_t g8 (by rw [n3]))))))))))
  by_cases g9 : x = 9
  · obtain ⟨x0, f, u, e, a1, a2, a3, a4, a5, a6, a7, _⟩ := h5
    exact Cal.same (r := nI u) h0 (eq_f g0 (eq_f g1 (eq_f g2 (eq_f g3 (eq_f g4 (eq_f g5 (eq_f g6 (eq_f g7 (eq_f g8 (eq_t g9 (by rw [a5]))))))))))) (eq_f g0 (eq_f g1 (eq_f g2 (eq_f g3 (eq_f g4 (eq_f g5 (eq_f g6 (eq_f g7 (eq_f g8 (eq_t g9 (by rw [a7])))))))))))
  by_cases g10 : x = 10
  · obtain ⟨z, z1, z2, z3⟩ := h7.1
    exact Cal.same (r := nI z) h0 (eq_f g0 (eq_f g1 (eq_f g2 (eq_f g3 (eq_f g4 (eq_f g5 (eq_f g6 (eq_f g7 (eq_f g8 (eq_f g9 (eq_t g10 (by rw [z2])))))))))))) (eq_f g0 (eq_f g1 (eq_f g2 (eq_f g3 (eq_f g4 (eq_f g5 (eq_f g6 (eq_f g7 (eq_f g8 (eq_f g9 (eq_t g10 (by rw [z3, zL_int (by omega) (by omega), nz]))))))))))))
  exact Cal.same (r := -1) h0 (eq_f g0 (eq_f g1 (eq_f g2 (eq_f g3 (eq_f g4 (eq_f g5 (eq_f g6 (eq_f g7 (eq_f g8 (eq_f g9 (eq_f g10 rfl))))))))))) (eq_f g0 (eq_f g1 (eq_f g2 (eq_f g3 (eq_f g4 (eq_f g5 (eq_f g6 (eq_f g7 (eq_f g8 (eq_f g9 (eq_f g10 rfl)))))))))))
end
section
/-! THE PAST: an act is remembered, and undone -/
theorem ln63 : ∀ j, j < 20 → LX.ln (63 + j) = 18 := by decide +kernel
def XP (p : Nat) (M M' : Mem) : Prop := gR M' = gR M ∧ gL M' = gL M ∧ gB M' = gB M ∧ (∀ k, ¬ (k = 2049 ∨ k = 2050) → gI M' k = gI M k) ∧ ∀ a, ¬ a = p → gA M' a = gA M a
theorem xsave {n0 p : Nat} {M : Mem} (hl : LX.ln p = 18) (hp : 63 ≤ p) : ∃ M', fX6_save n0 p M = some M' ∧ gA M' p 0 = gI M 1281 ∧ gA M' p 1 = gI M 1285 ∧ (∀ c, c < 5 → gA M' p (2 + c) = gA M 11 c ∧ gA M' p (7 + c) = gA M 12 c) ∧ (∀ d, d < 6 → gA M' p (12 + d) = gA M 13 d) ∧ gI M' = gI M ∧ gR M' = gR M ∧ gL M' = gL M ∧ gB M' = gB M ∧ ∀ a, ¬ a = p → gA M' a = gA M a := by
  have n11 : ¬ 11 = p := by omega
  have n12 : ¬ 12 = p := by omega
  have n13 : ¬ 13 = p := by omega
  have hM2 : ∃ M2, M2 = sA (sA M p 0 (gI M 1281)) p 1 (gI M 1285) := ⟨_, rfl⟩
  obtain ⟨M2, e2⟩ := hM2
  have v0 : gA M2 p 0 = gI M 1281 := by rw [e2, gA_sA, if_pos rfl, if_neg (by decide), gA_sA, if_pos rfl, if_pos rfl]
  have v1 : gA M2 p 1 = gI M 1285 := by rw [e2, gA_sA, if_pos rfl, if_pos rfl]
  have vo : ∀ a, ¬ a = p → gA M2 a = gA M a := fun a z => by rw [e2, gA_sA_ne z, gA_sA_ne z]
  have so : ∀ (N : Mem) (f : Nat → Int32) (a : Nat), ¬ a = p → gA (sF N p f) a = gA N a := fun N f a z => by
    funext j
    rw [gA_sF, if_neg z]
  have sp : ∀ (N : Mem) (f : Nat → Int32), gA (sF N p f) p = f := fun N f => by
    funext j
    rw [gA_sF, if_pos rfl]
  have hM3 : ∃ M3, M3 = sF M2 p (va_cpy (gA M2 11) (gA M2 p) 0 2 5) := ⟨_, rfl⟩
  obtain ⟨M3, e3⟩ := hM3
  have hM4 : ∃ M4, M4 = sF M3 p (va_cpy (gA M3 12) (gA M3 p) 0 7 5) := ⟨_, rfl⟩
  obtain ⟨M4, e4⟩ := hM4
  have hM5 : ∃ M5, M5 = sF M4 p (va_cpy (gA M4 13) (gA M4 p) 0 12 6) := ⟨_, rfl⟩
  obtain ⟨M5, e5⟩ := hM5
  have o3 : ∀ a, ¬ a = p → gA M3 a = gA M a := fun a z => by rw [e3, so _ _ a z, vo a z]
  have o4 : ∀ a, ¬ a = p → gA M4 a = gA M a := fun a z => by rw [e4, so _ _ a z, o3 a z]
  have o5 : ∀ a, ¬ a = p → gA M5 a = gA M a := fun a z => by rw [e5, so _ _ a z, o4 a z]
  have p3 : gA M3 p = va_cpy (gA M 11) (gA M2 p) 0 2 5 := by rw [e3, sp, vo 11 n11]
  have p4 : gA M4 p = va_cpy (gA M 12) (gA M3 p) 0 7 5 := by rw [e4, sp, o3 12 n12]
  have p5 : gA M5 p = va_cpy (gA M 13) (gA M4 p) 0 12 6 := by rw [e5, sp, o4 13 n13]
  refine ⟨M5, ?_, ?_, ?_, fun c hc => ⟨?_, ?_⟩, fun d hd => ?_, ?_, ?_, ?_, ?_, o5⟩
  · unfold fX6_save
    refine eq_t (by rw [hl]; decide) (eq_f (by rw [hl]; decide) (eq_n (eq_f (by rw [hl]; decide) (eq_e (v' := M2) (by rw [e2]; rfl) (eq_f (by rw [hl]; decide) (eq_e (v' := M3) (by rw [e3]; rfl) (eq_f (by rw [hl]; decide) (eq_e (v' := M4) (by rw [e4]; rfl) (eq_f (by rw [hl]; decide) ?_)))))))))
    rw [e5]
    rfl
  · rw [p5]; unfold va_cpy; rw [if_neg (by omega), p4]; unfold va_cpy; rw [if_neg (by omega), p3]; unfold va_cpy; rw [if_neg (by omega)]; exact v0
  · rw [p5]; unfold va_cpy; rw [if_neg (by omega), p4]; unfold va_cpy; rw [if_neg (by omega), p3]; unfold va_cpy; rw [if_neg (by omega)]; exact v1
  · rw [p5]; unfold va_cpy; rw [if_neg (by omega), p4]; unfold va_cpy; rw [if_neg (by omega), p3]; unfold va_cpy; rw [if_pos (by omega)]; congr 1; omega
  · rw [p5]; unfold va_cpy; rw [if_neg (by omega), p4]; unfold va_cpy; rw [if_pos (by omega)]; congr 1; omega
  · rw [p5]; unfold va_cpy; rw [if_pos (by omega)]; congr 1; omega
  · rw [e5, e4, e3, e2]; rfl
  · rw [e5, e4, e3, e2]; rfl
  · rw [e5, e4, e3, e2]; rfl
  · rw [e5, e4, e3, e2]; rfl
theorem xrem {n0 q m nx u : Nat} {T : TP} {pm : Nat → Int32 × Nat} {s : Nat × List (Nat × Nat)} {M : Mem} (hok : T.ok) (hS : SX q T.nc T.nd m pm s M) (hnx : nx < 20) (hu : u ≤ 20) (h1 : gI M 2049 = nI nx) (h2 : gI M 2050 = nI u) : ∃ M', fX2_remember n0 M = some M' ∧ gI M' 2049 = nI ((nx + 1) % 20) ∧ gI M' 2050 = nI (min 20 (u + 1)) ∧ RowX (63 + nx) T m s.2.length s.1 pm M' ∧ XP (63 + nx) M M' := by
  obtain ⟨M1, e1, e2, e3, e4, e5, e6, e7, e8, e9, e10⟩ := xsave (n0 := n0) (M := M) (ln63 nx hnx) (by omega)
  have cx : (nI nx).toNatClampNeg = nx := nI_clamp (by omega)
  have h5 := hok.2.1
  have h6 := hok.2.2.1
  refine ⟨sI (sI M1 2049 (nI ((nx + 1) % 20))) 2050 (nI (min 20 (u + 1))), ?_, by rw [gI_ne (by decide), gI_at], gI_at, ⟨?_, ?_, fun c hc => ?_, fun d hd => ?_⟩, ⟨e7, e8, e9, fun k z => by rw [gI_ne (by omega), gI_ne (by omega), e6], fun a z => e10 a z⟩⟩
  · unfold fX2_remember
    refine eq_f (by rw [h1]; exact nI_in hnx (by decide)) (eq_b (z := M1) (by rw [h1, cx]; exact e1) (eq_f (by decide) (eq_e (v' := sI M1 2049 (nI ((nx + 1) % 20))) ?_ ?_)))
    · rw [e6, h1, show nI nx + 1 = nI (nx + 1) from nI_add nx 1, show (20 : Int32) = nI 20 from rfl, rem_nI (by omega) (by decide)]
    · rw [gI_ne (by decide), e6, h2, show nI u + 1 = nI (u + 1) from nI_add u 1, show (20 : Int32) = nI 20 from rfl, imin_nI (by decide) (by omega)]
  · exact e2.trans hS.2.2.1
  · exact e3.trans hS.2.2.2.2.2.1
  · have := e4 c (by omega)
    have p := hS.2.2.2.1 c hc
    exact ⟨this.1.trans p.1, this.2.trans p.2⟩
  · exact (e5 d (by omega)).trans (hS.2.2.2.2.1 d hd)
theorem yslot {n0 f k : Nat} {M : Mem} (hf : f < 20) (hk : k ≤ 20) (h : gI M 53 = nI f) : fX12_slot n0 (nI k) M = some (nI (2 + (f + k) % 20), M) := by
  unfold fX12_slot
  refine eq_f (by decide) ?_
  rw [h, nI_add, show (20 : Int32) = nI 20 from rfl, rem_nI (by omega) (by decide), show (2 : Int32) = nI 2 from rfl, nI_add]
/-- what is kept of an act by the reference -/
theorem ykp {n0 b m f u : Nat} {T : TP} {pm : Nat → Int32 × Nat} {s : Nat × List (Nat × Nat)} {M : Mem} (hn : 1700 ≤ n0) (hok : T.ok) (hL : LyD 0 T.nc m pm s M) (hs : sOk T.nd s) (hf : f < 20) (hu : u < 20) (h1 : gI M 53 = nI f) (h2 : gI M 54 = nI u) : ∃ M', fX12_keeps_32 n0 M = some M' ∧ LyD (2 + (f + u) % 20) T.nc m pm s M' ∧ gI M' 54 = nI (u + 1) ∧ (∀ k, ¬ k = 54 → gI M' k = gI M k) ∧ gL M' = gL M ∧ gR M' = gR M ∧ (∀ a i, ¬ a = 35 → ¬ lP (2 + (f + u) % 20) a i → gA M' a i = gA M a i) ∧ ∀ a, ¬ a = 34 → gB M' a = gB M a := by
  have hl := hs.l
  obtain ⟨M1, e1, e2, e3⟩ := ycopyD (n0 := n0) (v := 2 + (f + u) % 20) (u := 0) hn (by omega) (by decide) (by omega) hok.2.1 (by omega) hL
  refine ⟨sI M1 54 (nI (u + 1)), ?_, e2, gI_at, fun k z => by rw [gI_ne z, e3.2.2.1], e3.2.1, e3.1, e3.2.2.2.1, e3.2.2.2.2⟩
  unfold fX12_keeps_32
  refine eq_b (z := (nI (2 + (f + u) % 20), M)) (by rw [h2]; exact yslot hf (by omega) h1) (eq_b e1 ?_)
  rw [e3.2.2.1, h2, show nI u + 1 = nI (u + 1) from nI_add u 1]
theorem take_full {α : Type} {K : List α} : K.take K.length = K := List.take_length
theorem RT.cgs {n0 q b : Nat} {T : TP} {nr C : Nat} {MX MY MX' MY' : Mem} (h : RT n0 q b T nr C MX MY) (h1 : gR MX' = gR MX) (h2 : ∀ k, 3968 ≤ k → gI MX' k = gI MX k) (h3 : ∀ a, 31 ≤ a → a < 63 → gA MX' a = gA MX a) (h4 : gI MY' 13 = gI MY 13) (h5 : ∀ a, 2 ≤ a → a ≤ 17 → gA MY' a = gA MY a) (h6 : ∀ a, 18 ≤ a → a ≤ 20 → gB MY' a = gB MY a) : RT n0 q b T nr C MX' MY' := by
  have hq := h.1
  exact h.tw ⟨fun j z1 z2 => h2 j (by omega), fun a z1 z2 => h3 a (by omega) (by omega)⟩ (yTw.all h5 h6) h4 (by rw [h1]) (by rw [h1])
theorem SX.cgs {q nc nd m : Nat} {pm : Nat → Int32 × Nat} {s : Nat × List (Nat × Nat)} {M M' : Mem} (h : SX q nc nd m pm s M) (h1 : gR M' = gR M) (h2 : gI M' 1281 = gI M 1281) (h3 : gI M' 1285 = gI M 1285) (h4 : ∀ a, 11 ≤ a → a ≤ 15 → gA M' a = gA M a) : SX q nc nd m pm s M' := by
  refine ⟨by rw [h1]; exact h.1, by rw [h1]; exact h.2.1, h2.trans h.2.2.1, fun c hc => ?_, fun d hd => ?_, h3.trans h.2.2.2.2.2.1, fun i p hp => ?_⟩
  · rw [h4 11 (by decide) (by decide), h4 12 (by decide) (by decide)]; exact h.2.2.2.1 c hc
  · rw [h4 13 (by decide) (by decide)]; exact h.2.2.2.2.1 d hd
  · rw [h4 14 (by decide) (by decide), h4 15 (by decide) (by decide)]; exact h.2.2.2.2.2.2 i p hp
theorem RO.cgs {MX MY MX' MY' : Mem} (h : RO MX MY) (h1 : ∀ k, (14 ≤ k ∧ k ≤ 17) ∨ k = 641 → gI MX' k = gI MX k) (h2 : ∀ a, a = 4 ∨ a = 6 ∨ a = 29 ∨ a = 30 → gA MX' a = gA MX a) (h3 : ∀ k, k = 1 ∨ k = 10 ∨ k = 11 ∨ k = 67 → gI MY' k = gI MY k) (h4 : ∀ a, a = 1 ∨ a = 27 ∨ a = 43 → gA MY' a = gA MY a) (h5 : gL MY' 55 = gL MY 55) : RO MX' MY' := by
  obtain ⟨a1, a2, a3, a4, a5, a6⟩ := h
  exact ⟨a1.cg (h1 17 (by omega)) h5, a2.cg (h1 14 (by omega)) (h3 67 (by omega)) (h2 29 (by omega)) (h4 43 (by omega)), a3.cg (h2 30 (by omega)) (h4 27 (by omega)), a4.cg (h1 15 (by omega)) (h1 16 (by omega)) (h3 10 (by omega)) (h3 11 (by omega)), a5.cg (h1 641 (by omega)) (h3 1 (by omega)) (h2 6 (by omega)) (h4 1 (by omega)), a6.cg (h2 4 (by omega))⟩
theorem remem {n0 q b : Nat} {T : TP} {nr C m : Nat} {pm : Nat → Int32 × Nat} {s : Nat × List (Nat × Nat)} {MX MY : Mem} (hn : 1700 ≤ n0) (h : RR n0 q b T nr C m pm s MX MY) : ∃ MX' MY', fX2_remember n0 MX = some MX' ∧ fX12_keeps n0 MY = some MY' ∧ RR n0 q b T nr C m pm s MX' MY' := by
  obtain ⟨h1, h2, h3, h4, ⟨x0, f, u, e, a1, a2, a3, a4, a5, a6, a7, a8, a9⟩, h6, h7⟩ := h
  have hok := h1.2.2.2.1.2.1
  have hl := h2.2.2.l
  obtain ⟨X1, x1, x2, x3, x4, x5⟩ := xrem (n0 := n0) hok h3 (nx := (x0 + u) % 20) (by omega) a3 a4 a5
  -- the reference: a place is made
  have yk : ∃ f' u' Y1, (fX12_keeps n0 MY = fX12_keeps_32 n0 Y1) ∧ f' < 20 ∧ u' < 20 ∧ gI Y1 53 = nI f' ∧ gI Y1 54 = nI u' ∧ (∀ k, ¬ (k = 53 ∨ k = 54) → gI Y1 k = gI MY k) ∧ gA Y1 = gA MY ∧ gB Y1 = gB MY ∧ gL Y1 = gL MY ∧ ((u < 20 ∧ f' = f ∧ u' = u) ∨ (u = 20 ∧ f' = (f + 1) % 20 ∧ u' = 19)) := by
    by_cases g : u = 20
    · refine ⟨(f + 1) % 20, 19, sI (sI MY 53 (nI ((f + 1) % 20))) 54 (nI 19), ?_, by omega, by omega, by rw [gI_ne (by decide), gI_at], gI_at, fun k z => by rw [gI_ne (by omega), gI_ne (by omega)], rfl, rfl, rfl, Or.inr ⟨g, rfl, rfl⟩⟩
      unfold fX12_keeps
      refine eq_t (by rw [a7, g]; rfl) (eq_f (by decide) (eq_e (v' := sI MY 53 (nI ((f + 1) % 20))) ?_ ?_))
      · rw [a6, show nI f + 1 = nI (f + 1) from nI_add f 1, show (20 : Int32) = nI 20 from rfl, rem_nI (by omega) (by decide)]
      · rw [gI_ne (by decide), a7, g]
        rfl
    · refine ⟨f, u, MY, ?_, a2, by omega, a6, a7, fun _ _ => rfl, rfl, rfl, rfl, Or.inl ⟨by omega, rfl, rfl⟩⟩
      unfold fX12_keeps
      exact eq_f (by rw [a7]; exact fun z => g ((nI_eq (b := 20) (by omega) (by decide)).mp z)) rfl
  obtain ⟨f', u', Y1, y1, y2, y3, y4, y5, y6, y7, y8, y9, y10⟩ := yk
  obtain ⟨Y2, z1, z2, z3, z4, z5, z6, z7, z8⟩ := ykp (n0 := n0) (b := b) hn hok (h4.cg hok.2.1 (by omega) (fun a i _ => by rw [y7])) h2.2.2 y2 y3 y4 y5
  have w7 : ∀ a i, ¬ a = 35 → ¬ lP (2 + (f' + u') % 20) a i → gA Y2 a i = gA MY a i := fun a i p1 p2 => (z7 a i p1 p2).trans (by rw [y7])
  have wI : ∀ k, ¬ (k = 53 ∨ k = 54) → gI Y2 k = gI MY k := fun k p => (z4 k (by omega)).trans (y6 k p)
  have wB : ∀ a, ¬ a = 34 → gB Y2 a = gB MY a := fun a p => (z8 a p).trans (by rw [y8])
  have wA : ∀ a, ¬ (28 ≤ a ∧ a ≤ 33) → ¬ a = 35 → gA Y2 a = gA MY a := fun a p1 p2 => by
    funext i
    exact w7 a i p2 (fun z => by unfold lP tP dP at z; omega)
  refine ⟨X1, Y2, x1, y1.trans z1, ?_⟩
  refine ⟨h1.cgs x5.1 (fun k p => x5.2.2.2.1 k (by omega)) (fun a p1 p2 => x5.2.2.2.2 a (by omega)) (wI 13 (by decide)) (fun a p1 p2 => wA a (by omega) (by omega)) (fun a p1 p2 => wB a (by omega)), h2, h3.cgs x5.1 (x5.2.2.2.1 1281 (by decide)) (x5.2.2.2.1 1285 (by decide)) (fun a p1 p2 => x5.2.2.2.2 a (by omega)), h4.cg hok.2.1 (by omega) (fun a i p => w7 a i (by unfold lP tP dP at p; omega) (fun z => by unfold lP tP dP at z p; omega)), ?_, h6.cg (x5.2.2.2.1 2688 (by decide)) (wI 61 (by decide)) (fun a p1 p2 => x5.2.2.2.2 a (by omega)) (fun a p1 p2 => wA a (by omega) (by omega)), h7.cgs (fun k p => x5.2.2.2.1 k (by omega)) (fun a p => x5.2.2.2.2 a (by omega)) (fun k p => wI k (by omega)) (fun a p => wA a (by omega) (by omega)) (by rw [z5, y9])⟩
  have new : UE T s.2 (m, pm, s.1, s.2.length) (63 + (x0 + u) % 20) (2 + (f' + u') % 20) X1 Y2 := ⟨h2.1, h2.2.1, by rw [take_full]; exact h2.2.2, Nat.le_refl _, x4, by rw [take_full]; exact z2⟩
  rcases y10 with ⟨g, rfl, rfl⟩ | ⟨g, ef, eu⟩
  · refine ⟨x0, f', u' + 1, fun i => if i = u' then (m, pm, s.1, s.2.length) else e i, a1, a2, by omega, by rw [x2]; congr 1; omega, by rw [x3]; congr 1; omega, (z4 53 (by decide)).trans y4, z3, fun i hi => ?_, fun i j hij hj => ?_⟩
    · dsimp only
      by_cases gi : i = u'
      · rw [if_pos gi, gi]
        exact new
      · rw [if_neg gi]
        have o := a8 i (by omega)
        refine ⟨o.1, o.2.1, o.2.2.1, o.2.2.2.1, ?_, ?_⟩
        · have o5 := o.2.2.2.2.1
          unfold RowX at o5 ⊢
          rw [x5.2.2.2.2 (63 + (x0 + i) % 20) (by omega)]
          exact o5
        · have ol := o.2.2.1.l
          exact o.2.2.2.2.2.cg hok.2.1 (by omega) (fun a j p => w7 a j (by unfold lP tP dP at p; omega) (fun z => by unfold lP tP dP at z p; omega))
    · dsimp only
      by_cases gj : j = u'
      · rw [if_pos gj]
        by_cases gi : i = u'
        · rw [if_pos gi]; exact Nat.le_refl _
        · rw [if_neg gi]; exact (a8 i (by omega)).2.2.2.1
      · rw [if_neg gj, if_neg (by omega)]
        exact a9 i j hij (by omega)
  · subst ef eu
    refine ⟨(x0 + 1) % 20, (f + 1) % 20, 20, fun i => if i = 19 then (m, pm, s.1, s.2.length) else e (i + 1), by omega, by omega, by omega, by rw [x2]; congr 1; omega, by rw [x3]; congr 1; omega, (z4 53 (by decide)).trans y4, z3, fun i hi => ?_, fun i j hij hj => ?_⟩
    · dsimp only
      by_cases gi : i = 19
      · rw [if_pos gi, gi, show 63 + ((x0 + 1) % 20 + 19) % 20 = 63 + (x0 + u) % 20 by omega]
        exact new
      · rw [if_neg gi, show 63 + ((x0 + 1) % 20 + i) % 20 = 63 + (x0 + (i + 1)) % 20 by omega, show 2 + ((f + 1) % 20 + i) % 20 = 2 + (f + (i + 1)) % 20 by omega]
        have o := a8 (i + 1) (by omega)
        refine ⟨o.1, o.2.1, o.2.2.1, o.2.2.2.1, ?_, ?_⟩
        · have o5 := o.2.2.2.2.1
          unfold RowX at o5 ⊢
          rw [x5.2.2.2.2 (63 + (x0 + (i + 1)) % 20) (by omega)]
          exact o5
        · have ol := o.2.2.1.l
          exact o.2.2.2.2.2.cg hok.2.1 (by omega) (fun a j p => w7 a j (by unfold lP tP dP at p; omega) (fun z => by unfold lP tP dP at z p; omega))
    · dsimp only
      by_cases gj : j = 19
      · rw [if_pos gj]
        by_cases gi : i = 19
        · rw [if_pos gi]; exact Nat.le_refl _
        · rw [if_neg gi]; exact (a8 (i + 1) (by omega)).2.2.2.1
      · rw [if_neg gj, if_neg (by omega)]
        exact a9 (i + 1) (j + 1) (by omega) (by omega)
end
