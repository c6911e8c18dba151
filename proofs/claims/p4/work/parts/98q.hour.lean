/-! AN HOUR OUT OF A VALUE, ON BOTH SIDES -/
def hr (a : Int) : Int := if 0 ≤ a then (if a ≤ 23 then a else 23) else 0
theorem hr_r (a : Int) : 0 ≤ hr a ∧ hr a ≤ 23 := by
  unfold hr
  by_cases g : 0 ≤ a
  · rw [if_pos g]
    by_cases g2 : a ≤ 23
    · rw [if_pos g2]; omega
    · rw [if_neg g2]; omega
  · rw [if_neg g]; omega
theorem zl23 : (23 : Int64) = zL 23 := by decide
theorem zi23 : (23 : Int32) = zI 23 := by decide
theorem yhour {n0 : Nat} {a : Int} {M : Mem} (ha : mR a) : fX12_hour_29 n0 (zL a) M = some (zI (hr a), M) := by
  have c1 := lgc_ge ha.l m0.l
  have c2 := lgc_le ha.l (show lR 23 by unfold lR; omega)
  unfold fX12_hour_29 hr
  rw [zl0, zl23]
  by_cases g : 0 ≤ a
  · rw [if_pos g]
    refine eq_t (c1.mpr g) ?_
    by_cases g2 : a ≤ 23
    · rw [if_pos g2]
      refine eq_t (c2.mpr g2) ?_
      rw [zL_int ha.i.1 ha.i.2]
    · rw [if_neg g2]
      refine eq_f (fun z => g2 (c2.mp z)) ?_
      rw [zi23]
  · rw [if_neg g]
    refine eq_f (fun z => g (c1.mp z)) ?_
    rw [zi0]
theorem xhour {n0 : Nat} {a : Int} {M : Mem} (ha : mR a) : fX1_hourNow_57 n0 (zI a) M = some (zI (hr a), M) := by
  have c1 : zI a < zI 23 ↔ a < 23 := zI_lt ha.i.1 ha.i.2 (by omega) (by omega)
  have c2 : zI 0 < zI a ↔ 0 < a := zI_lt (by omega) (by omega) ha.i.1 ha.i.2
  have c3 : zI 0 < zI 23 := (zI_lt (by omega) (by omega) (by omega) (by omega)).mpr (by omega)
  have e : imax 0 (imin 23 (zI a)) = zI (hr a) := by
    unfold imax imin hr
    rw [zi0, zi23]
    by_cases g : a < 23
    · rw [if_pos (c1.mpr g)]
      by_cases g2 : 0 < a
      · rw [if_pos (c2.mpr g2), if_pos (by omega), if_pos (by omega)]
      · rw [if_neg (fun z => g2 (c2.mp z))]
        by_cases g3 : 0 ≤ a
        · rw [if_pos g3, if_pos (by omega), show a = 0 by omega]
        · rw [if_neg g3]
    · rw [if_neg (fun z => g (c1.mp z)), if_pos c3, if_pos (by omega)]
      by_cases g3 : a ≤ 23
      · rw [if_pos g3, show a = 23 by omega]
      · rw [if_neg g3]
  unfold fX1_hourNow_57
  rw [e]
