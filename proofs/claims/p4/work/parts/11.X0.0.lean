section
variable {p : Program} {l : Launch} {e : Env} {s : State} {m : MethodId} {args : Array Value} {below : List Frame} {meth : Method} {c : Code} {D : va_G} {cy : Nat → ClassId} {ad : Nat → Nat} {dd : Nat}

/-! X0_isTold -/
def fX0_isTold (n0 : Nat) (q0 : Nat) (M : Mem) : Option (Int32 × Mem) :=
  if (gI M (128 * q0 + 1)) ≤ 0 then
    some ((0 : Int32), M)
  else
    some ((1 : Int32), M)
theorem tfX0_isTold (n0 : Nat) (q0 : Nat) (hq0 : isK LX q0 0) (hO : OKc p (rmL 1) s m args meth c LX D cy ad cX0_isTold RX0 1 1 (some .boolean)) (M : Mem) : BL p l e (rmL 1) s m args below meth c LX D cy ad 1 (QI LX D cy ad) 0 [(0, .ref (ad q0))] [] M (fX0_isTold n0 q0 M) := by
  unfold fX0_isTold
  refine b_aload_n hO dX0_isTold_0 0 rfl rfl ?_
  refine b_get hO flX0_15 hq0 (v := .int (gI _ (128 * q0 + 1))) rfl dX0_isTold_1 ?_
  refine b_if_le hO dX0_isTold_4 (tgt := 11) (by decide) ?_ ?_
  · refine b_iconst hO dX0_isTold_11 ic_i_0 ?_
    exact b_zretc hO (Or.inl rfl) dX0_isTold_12
  · refine b_iconst hO dX0_isTold_7 ic_i_1 ?_
    refine b_goto hO dX0_isTold_8 (tgt := 12) (by decide) ?_
    exact b_zretc hO (Or.inr rfl) dX0_isTold_12
theorem ctX0_isTold (n0 : Nat) (q0 : Nat) (hq0 : isK LX q0 0) (hI : Inj LX ad) (M : Mem) : CT l LX D cy ad yX0_isTold cX0_isTold 1 (some .boolean) 1 (QI LX D cy ad) [.ref (ad q0)] M (fX0_isTold n0 q0 M) :=
  CT.mk LXok hI (by decide) (Nat.le_of_ble_eq_true rfl) (fun hO => tfX0_isTold n0 q0 hq0 hO M)
/-! X0_add -/
def fX0_add (n0 : Nat) (q0 : Nat) (x1 : Int32) (M : Mem) : Option (Mem) :=
  if (1600 : Int32) ≤ (gI M (128 * q0 + 1)) then
    some M
  else
    if oob (gI M (128 * q0 + 1)) 1600 then none else
    bnd (sA M (q0 + 1) (Int32.toNatClampNeg (gI M (128 * q0 + 1))) x1) fun M19 =>
    some (sI M19 (128 * q0 + 1) ((gI M19 (128 * q0 + 1)) + (1 : Int32)))
theorem tfX0_add (n0 : Nat) (q0 : Nat) (hq0 : isK LX q0 0) (hO : OKc p (rmL 1) s m args meth c LX D cy ad cX0_add RX0 2 1 none) (x1 : Int32) (M : Mem) : BL p l e (rmL 1) s m args below meth c LX D cy ad 2 (QV LX D cy ad) 0 [(0, .ref (ad q0)), (1, .int x1)] [] M (fX0_add n0 q0 x1 M) := by
  unfold fX0_add
  refine b_aload_n hO dX0_add_0 0 rfl rfl ?_
  refine b_get hO flX0_15 hq0 (v := .int (gI _ (128 * q0 + 1))) rfl dX0_add_1 ?_
  refine b_sipush hO dX0_add_4 ic_s_1600 ?_
  refine b_icmp_ge hO dX0_add_7 (tgt := 30) (by decide) ?_ ?_
  · exact b_vret hO dX0_add_30
  · refine b_aload_n hO dX0_add_10 0 rfl rfl ?_
    refine b_get hO flX0_9 hq0 (v := .ref (ad (q0 + 1))) rfl dX0_add_11 ?_
    refine b_aload_n hO dX0_add_14 0 rfl rfl ?_
    refine b_get hO flX0_15 hq0 (v := .int (gI _ (128 * q0 + 1))) rfl dX0_add_15 ?_
    refine b_iload_n hO dX0_add_18 1 rfl rfl ?_
    refine b_iast hO (kt_0_1 hq0) (n := 1600) (lt_0_1 hq0) dX0_add_19 ?_
    refine b_bnd (fun M19 => ?_)
    refine b_aload_n hO dX0_add_20 0 rfl rfl ?_
    refine b_dup hO dX0_add_21 rfl ?_
    refine b_get hO flX0_15 hq0 (v := .int (gI _ (128 * q0 + 1))) rfl dX0_add_22 ?_
    refine b_iconst hO dX0_add_25 ic_i_1 ?_
    refine b_iadd hO dX0_add_26 ?_
    refine b_putI hO flX0_15 hq0 rfl rfl rfl (id := (128 * q0 + 1)) rfl dX0_add_27 ?_
    exact b_vret hO dX0_add_30
theorem ctX0_add (n0 : Nat) (q0 : Nat) (hq0 : isK LX q0 0) (hI : Inj LX ad) (x1 : Int32) (M : Mem) : CT l LX D cy ad yX0_add cX0_add 2 none 1 (QV LX D cy ad) [.ref (ad q0), .int x1] M (fX0_add n0 q0 x1 M) :=
  CT.mk LXok hI (by decide) (Nat.le_of_ble_eq_true rfl) (fun hO => tfX0_add n0 q0 hq0 hO x1 M)
end
