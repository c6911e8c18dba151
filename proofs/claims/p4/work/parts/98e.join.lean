/-! TWO VALUES JOINED BY THE CLASS -/
def joinT (n0 : Nat) (x1 x3_39 x4_46 x5_56 : Int32) (M30 : Mem) : Option Mem :=
  if x1 = (-19 : Int32) then
    bnd ((x4_46 ||| x5_56)).toInt64 fun y6_327 =>
    fX1_join_332 n0 x3_39 y6_327 M30
  else
  if x1 = (-18 : Int32) then
    bnd ((x4_46 &&& x5_56)).toInt64 fun y6_316 =>
    fX1_join_332 n0 x3_39 y6_316 M30
  else
  if x1 = (-17 : Int32) then
    if x4_46 = x5_56 then
      fX1_join_305 n0 x3_39 (1 : Int64) M30
    else
      fX1_join_305 n0 x3_39 (0 : Int64) M30
  else
  if x1 = (-16 : Int32) then
    if x4_46 ≤ x5_56 then
      fX1_join_288 n0 x3_39 (0 : Int64) M30
    else
      fX1_join_288 n0 x3_39 (1 : Int64) M30
  else
  if x1 = (-15 : Int32) then
    if x5_56 ≤ x4_46 then
      fX1_join_271 n0 x3_39 (0 : Int64) M30
    else
      fX1_join_271 n0 x3_39 (1 : Int64) M30
  else
  if x1 = (-14 : Int32) then
    if x4_46 = 0 then
      if oob (x3_39 + (2 : Int32)) 64 then none else
      fX1_join_254 n0 x3_39 ((gA M30 9 (Int32.toNatClampNeg (x3_39 + (2 : Int32))))).toInt64 M30
    else
      fX1_join_254 n0 x3_39 (x5_56).toInt64 M30
  else
  if x1 = (-13 : Int32) then
    bnd ((imax x4_46 x5_56)).toInt64 fun y6_229 =>
    fX1_join_332 n0 x3_39 y6_229 M30
  else
  if x1 = (-12 : Int32) then
    bnd ((imin x4_46 x5_56)).toInt64 fun y6_216 =>
    fX1_join_332 n0 x3_39 y6_216 M30
  else
  if x1 = (-11 : Int32) then
    if x5_56 = 0 then
      fX1_join_203 n0 x3_39 (0 : Int64) M30
    else
      (fJ9_floorMod_7cf53 n0 x4_46 x5_56 M30).bind fun z199 =>
      fX1_join_203 n0 x3_39 (z199.1).toInt64 z199.2
  else
  if x1 = (-10 : Int32) then
    if x5_56 = 0 then
      fX1_join_181 n0 x3_39 (0 : Int64) M30
    else
      (fJ9_floorDiv_7cf53 n0 x4_46 x5_56 M30).bind fun z177 =>
      fX1_join_181 n0 x3_39 (z177.1).toInt64 z177.2
  else
  if x1 = (-9 : Int32) then
    bnd ((x4_46).toInt64 * (x5_56).toInt64) fun y6_159 =>
    fX1_join_332 n0 x3_39 y6_159 M30
  else
  if x1 = (-8 : Int32) then
    bnd ((x4_46).toInt64 - (x5_56).toInt64) fun y6_147 =>
    fX1_join_332 n0 x3_39 y6_147 M30
  else
  if x1 = (-7 : Int32) then
    bnd ((x4_46).toInt64 + (x5_56).toInt64) fun y6_135 =>
    fX1_join_332 n0 x3_39 y6_135 M30
  else
  fX1_join_332 n0 x3_39 (0 : Int64) M30
theorem eq_e {α β : Type} {v v' : α} {k : α → Option β} {r : Option β} (e : v = v') (h : k v' = r) : bnd v k = r := by subst e; exact h
theorem nIs (k : Nat) : nI (k + 1) - 1 = nI k := by
  rw [← nI_1]
  grind
theorem xjoin {n0 k : Nat} {x1 : Int32} {M : Mem} (hk : k + 1 < 64) (h9 : gI M 903 = nI (k + 2)) (hx : ¬ x1 = -14) : fX1_join n0 x1 M = joinT n0 x1 (nI k) (gA M 9 k) (gA M 9 (k + 1)) (sI M 903 (nI (k + 1))) := by
  have c0 : (nI k).toNatClampNeg = k := nI_clamp (by omega)
  have c1 : (nI (k + 1)).toNatClampNeg = k + 1 := nI_clamp (by omega)
  have o0 : ¬ oob (nI k) 64 := nI_in (by omega) (by decide)
  have o1 : ¬ oob (nI k + 1) 64 := by rw [nI_1]; exact nI_in (by omega) (by decide)
  have e1 : gI M 903 - ((2 : Int32) - 1) = nI (k + 1) := by rw [h9]; exact nIs (k + 1)
  unfold fX1_join fX1_join_11
  refine eq_f hx (eq_t (by rw [h9]; exact nI_le (a := 2) (by omega) (by omega)) (eq_e (v' := sI M 903 (nI (k + 1))) (by rw [e1]) (eq_e (v' := nI k) (by rw [gI_at]; exact nIs k) (eq_f o0 (eq_e (v' := gA M 9 k) (by rw [c0]; rfl) (eq_f o1 (eq_e (v' := gA M 9 (k + 1)) (by rw [nI_1, c1]; rfl) ?_)))))))
  rfl
theorem xj332 {n0 k : Nat} {v : Int} {M : Mem} (hk : k < 64) (hv : lR v) : fX1_join_332 n0 (nI k) (zL v) M = some (sA M 9 k (zI (clip v))) := by
  unfold fX1_join_332
  refine eq_f (nI_in (by omega) (by decide)) ?_
  rw [xwithin hv, nI_clamp (by omega)]
