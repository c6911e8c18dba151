/-! SUMS ON BOTH SIDES: ints against longs, within a million -/
def zI (z : Int) : Int32 := Int32.ofInt z
def zL (z : Int) : Int64 := Int64.ofInt z
theorem zI_toInt {z : Int} (h1 : -2147483648 ≤ z) (h2 : z ≤ 2147483647) : (zI z).toInt = z := Int32.toInt_ofInt_of_le (by omega) (by omega)
theorem zL_toInt {z : Int} (h1 : -9223372036854775808 ≤ z) (h2 : z ≤ 9223372036854775807) : (zL z).toInt = z := Int64.toInt_ofInt_of_le (by omega) (by omega)
theorem zI_of (x : Int32) : zI x.toInt = x := Int32.ofInt_toInt x
theorem zL_of (x : Int64) : zL x.toInt = x := Int64.ofInt_toInt x
theorem zL_lt {a b : Int} (a1 : -9223372036854775808 ≤ a) (a2 : a ≤ 9223372036854775807) (b1 : -9223372036854775808 ≤ b) (b2 : b ≤ 9223372036854775807) : zL a < zL b ↔ a < b := by rw [Int64.lt_iff_toInt_lt, zL_toInt a1 a2, zL_toInt b1 b2]
theorem zL_eq {a b : Int} (a1 : -9223372036854775808 ≤ a) (a2 : a ≤ 9223372036854775807) (b1 : -9223372036854775808 ≤ b) (b2 : b ≤ 9223372036854775807) : zL a = zL b ↔ a = b := by rw [← Int64.toInt_inj, zL_toInt a1 a2, zL_toInt b1 b2]
theorem zI_lt {a b : Int} (a1 : -2147483648 ≤ a) (a2 : a ≤ 2147483647) (b1 : -2147483648 ≤ b) (b2 : b ≤ 2147483647) : zI a < zI b ↔ a < b := by rw [Int32.lt_iff_toInt_lt, zI_toInt a1 a2, zI_toInt b1 b2]
theorem zI_le {a b : Int} (a1 : -2147483648 ≤ a) (a2 : a ≤ 2147483647) (b1 : -2147483648 ≤ b) (b2 : b ≤ 2147483647) : zI a ≤ zI b ↔ a ≤ b := by rw [Int32.le_iff_toInt_le, zI_toInt a1 a2, zI_toInt b1 b2]
theorem zI_eq {a b : Int} (a1 : -2147483648 ≤ a) (a2 : a ≤ 2147483647) (b1 : -2147483648 ≤ b) (b2 : b ≤ 2147483647) : zI a = zI b ↔ a = b := by rw [← Int32.toInt_inj, zI_toInt a1 a2, zI_toInt b1 b2]
theorem zI_long {a : Int} (a1 : -2147483648 ≤ a) (a2 : a ≤ 2147483647) : (zI a).toInt64 = zL a := by rw [← Int64.toInt_inj, Int32.toInt_toInt64, zI_toInt a1 a2, zL_toInt (by omega) (by omega)]
theorem zL_int {a : Int} (a1 : -2147483648 ≤ a) (a2 : a ≤ 2147483647) : (zL a).toInt32 = zI a := by rw [← zI_long a1 a2, Int32.toInt32_toInt64]
theorem zL_add (a b : Int) : zL a + zL b = zL (a + b) := (Int64.ofInt_add a b).symm
theorem zL_sub (a b : Int) : zL a - zL b = zL (a - b) := (Int64.ofInt_sub a b).symm
theorem zL_mul (a b : Int) : zL a * zL b = zL (a * b) := (Int64.ofInt_mul a b).symm
theorem zI_add (a b : Int) : zI a + zI b = zI (a + b) := (Int32.ofInt_add a b).symm
theorem zI_sub (a b : Int) : zI a - zI b = zI (a - b) := (Int32.ofInt_sub a b).symm
theorem zI_mul (a b : Int) : zI a * zI b = zI (a * b) := (Int32.ofInt_mul a b).symm
def lR (a : Int) : Prop := -9000000000000 ≤ a ∧ a ≤ 9000000000000
theorem lgc {a b : Int} (ha : lR a) (hb : lR b) : lg_cmp (zL a) (zL b) = if b < a then 1 else if a = b then 0 else -1 := by
  unfold lR at ha hb
  have h1 := zL_lt (a := b) (b := a) (by omega) (by omega) (by omega) (by omega)
  have h2 := zL_eq (a := a) (b := b) (by omega) (by omega) (by omega) (by omega)
  unfold lg_cmp
  by_cases g : b < a
  · rw [if_pos (h1.mpr g), if_pos g]
  · rw [if_neg (fun z => g (h1.mp z)), if_neg g]
    by_cases g2 : a = b
    · rw [if_pos (h2.mpr g2), if_pos g2]
    · rw [if_neg (fun z => g2 (h2.mp z)), if_neg g2]
theorem lgc_le {a b : Int} (ha : lR a) (hb : lR b) : lg_cmp (zL a) (zL b) ≤ 0 ↔ a ≤ b := by
  rw [lgc ha hb]
  by_cases g : b < a
  · rw [if_pos g]; exact ⟨fun z => absurd z (by decide), fun z => by omega⟩
  · rw [if_neg g]
    by_cases g2 : a = b
    · rw [if_pos g2]; exact ⟨fun _ => by omega, fun _ => by decide⟩
    · rw [if_neg g2]; exact ⟨fun _ => by omega, fun _ => by decide⟩
theorem lgc_ge {a b : Int} (ha : lR a) (hb : lR b) : 0 ≤ lg_cmp (zL a) (zL b) ↔ b ≤ a := by
  rw [lgc ha hb]
  by_cases g : b < a
  · rw [if_pos g]; exact ⟨fun _ => by omega, fun _ => by decide⟩
  · rw [if_neg g]
    by_cases g2 : a = b
    · rw [if_pos g2]; exact ⟨fun _ => by omega, fun _ => by decide⟩
    · rw [if_neg g2]; exact ⟨fun z => absurd z (by decide), fun z => by omega⟩
theorem lgc_eq {a b : Int} (ha : lR a) (hb : lR b) : lg_cmp (zL a) (zL b) = 0 ↔ a = b := by
  rw [lgc ha hb]
  by_cases g : b < a
  · rw [if_pos g]; exact ⟨fun z => absurd z (by decide), fun z => by omega⟩
  · rw [if_neg g]
    by_cases g2 : a = b
    · rw [if_pos g2]; exact ⟨fun _ => by omega, fun _ => rfl⟩
    · rw [if_neg g2]; exact ⟨fun z => absurd z (by decide), fun z => absurd z g2⟩
/-- within a million -/
def clip (a : Int) : Int := if a ≤ 1000000 then (if -1000000 ≤ a then a else -1000000) else 1000000
def mR (a : Int) : Prop := -1000000 ≤ a ∧ a ≤ 1000000
theorem clip_m (a : Int) : mR (clip a) := by
  unfold clip mR
  by_cases g : a ≤ 1000000
  · rw [if_pos g]
    by_cases g2 : -1000000 ≤ a
    · rw [if_pos g2]; exact ⟨g2, g⟩
    · rw [if_neg g2]; decide
  · rw [if_neg g]; decide
theorem clip_id {a : Int} (h : mR a) : clip a = a := by
  unfold clip
  rw [if_pos h.2, if_pos h.1]
theorem L6 : (1000000 : Int64) = zL 1000000 := by decide
theorem L6n : (-1000000 : Int64) = zL (-1000000) := by decide
theorem zl0 : (0 : Int64) = zL 0 := by decide
theorem zl1 : (1 : Int64) = zL 1 := by decide
theorem ywithin {n0 : Nat} {a : Int} {M : Mem} (ha : lR a) : fX12_within n0 (zL a) M = some (zL (clip a), M) := by
  have r1 : lR 1000000 := by unfold lR; omega
  have r2 : lR (-1000000) := by unfold lR; omega
  have c1 := lgc_le ha r1
  have c2 := lgc_ge ha r2
  unfold fX12_within clip
  rw [L6n, L6]
  by_cases g : a ≤ 1000000
  · rw [if_pos (c1.mpr g), if_pos g]
    by_cases g2 : -1000000 ≤ a
    · rw [if_pos (c2.mpr g2), if_pos g2]
    · rw [if_neg (fun z => g2 (c2.mp z)), if_neg g2]
  · rw [if_neg (fun z => g (c1.mp z)), if_neg g]
theorem xwithin {a : Int} (ha : lR a) : (lmax (-1000000) (lmin 1000000 (zL a))).toInt32 = zI (clip a) := by
  unfold lR at ha
  have c1 : zL a < zL 1000000 ↔ a < 1000000 := zL_lt (by omega) (by omega) (by omega) (by omega)
  have c2 : zL a < zL (-1000000) ↔ a < -1000000 := zL_lt (by omega) (by omega) (by omega) (by omega)
  have c3 : ¬ zL 1000000 < zL (-1000000) := by rw [zL_lt (by omega) (by omega) (by omega) (by omega)]; omega
  have e : lmax (-1000000) (lmin 1000000 (zL a)) = zL (clip a) := by
    unfold lmax lmin clip
    rw [L6n, L6]
    by_cases g : a < 1000000
    · rw [if_pos (c1.mpr g), if_pos (show a ≤ 1000000 by omega)]
      by_cases g2 : a < -1000000
      · rw [if_pos (c2.mpr g2), if_neg (by omega)]
      · rw [if_neg (fun z => g2 (c2.mp z)), if_pos (by omega)]
    · rw [if_neg (fun z => g (c1.mp z)), if_neg c3]
      by_cases g2 : a = 1000000
      · rw [if_pos (by omega), if_pos (by omega), g2]
      · rw [if_neg (by omega)]
  have m := clip_m a
  unfold mR at m
  rw [e, zL_int (by omega) (by omega)]
theorem xnn {x : Int32} : 0 ≤ x ↔ x.toBitVec.msb = false := by
  rw [Int32.le_iff_toInt_le]
  show (0 : Int) ≤ x.toBitVec.toInt ↔ _
  rw [BitVec.msb_eq_toInt]
  simp
theorem xsign {x y : Int32} : 0 ≤ x ^^^ y ↔ (0 ≤ x ↔ 0 ≤ y) := by
  rw [xnn, xnn, xnn, Int32.toBitVec_xor, BitVec.msb_xor]
  cases x.toBitVec.msb <;> cases y.toBitVec.msb <;> decide
theorem zL_div {a b : Int} (ha : mR a) (hb : mR b) : zL a / zL b = zL (a.tdiv b) := by
  unfold mR at ha hb
  exact (Int64.ofInt_tdiv (by show (-9223372036854775808 : Int) ≤ a; omega) (by show a ≤ (9223372036854775807 : Int); omega) (by show (-9223372036854775808 : Int) ≤ b; omega) (by show b ≤ (9223372036854775807 : Int); omega)).symm
theorem zI_div {a b : Int} (ha : mR a) (hb : mR b) : zI a / zI b = zI (a.tdiv b) := by
  unfold mR at ha hb
  exact (Int32.ofInt_tdiv (by show (-2147483648 : Int) ≤ a; omega) (by show a ≤ (2147483647 : Int); omega) (by show (-2147483648 : Int) ≤ b; omega) (by show b ≤ (2147483647 : Int); omega)).symm
theorem tdiv_m {a b : Int} (ha : mR a) : mR (a.tdiv b) := by
  have h := Int.natAbs_tdiv_le_natAbs a b
  unfold mR at ha ⊢
  omega
