section
variable {p : Program} {l : Launch} {e : Env} {s : State} {m : MethodId} {args : Array Value} {below : List Frame} {meth : Method} {c : Code} {D : va_G} {cy : Nat → ClassId} {ad : Nat → Nat} {dd : Nat}

/-! X2_remember -/
def fX2_remember (n0 : Nat) (M : Mem) : Option (Mem) :=
  if oob (gI M 2049) 20 then none else
  (fX6_save n0 (63 + Int32.toNatClampNeg (gI M 2049)) M).bind fun z10 =>
  if (20 : Int32) = 0 then none else
  bnd (sI z10 2049 (rem32 ((gI z10 2049) + (1 : Int32)) (20 : Int32))) fun M23 =>
  some (sI M23 2050 (imin (20 : Int32) ((gI M23 2050) + (1 : Int32))))
theorem tfX2_remember (n0 : Nat) (hO : OKc p (rmL 2) s m args meth c LX D cy ad cX2_remember RX2 2 2 none) (M : Mem) : BL p l e (rmL 2) s m args below meth c LX D cy ad 2 (QV LX D cy ad) 0 [(0, .ref (ad 16)), (1, .ref (ad 10))] [] M (fX2_remember n0 M) := by
  unfold fX2_remember
  refine b_aload_n hO dX2_remember_0 1 rfl rfl ?_
  refine b_aload_n hO dX2_remember_1 0 rfl rfl ?_
  refine b_get hO flX2_13 kLX_16 (v := .ref (ad 17)) rfl dX2_remember_2 ?_
  refine b_aload_n hO dX2_remember_5 0 rfl rfl ?_
  refine b_get hO flX2_18 kLX_16 (v := .int (gI _ 2049)) rfl dX2_remember_6 ?_
  refine b_aald hO kLX_17 (n := 20) rfl (b := 63) rfl dX2_remember_9 kg_17 (fun hg1 => ?_)
  refine b_callVV hO mdX6_save mvX6_save w1132 (ci := 6) rfl rfl (by decide) kLX_10 (As := [.ref _]) (st := []) (ctX6_save n0 _ hg1 hO.2.2.2.2.2.2.1 _) (Nat.le_of_ble_eq_true rfl) rfl rfl (Nat.le_of_ble_eq_true rfl) dX2_remember_10 (fun z10 => ?_)
  refine b_aload_n hO dX2_remember_13 0 rfl rfl ?_
  refine b_aload_n hO dX2_remember_14 0 rfl rfl ?_
  refine b_get hO flX2_18 kLX_16 (v := .int (gI _ 2049)) rfl dX2_remember_15 ?_
  refine b_iconst hO dX2_remember_18 ic_i_1 ?_
  refine b_iadd hO dX2_remember_19 ?_
  refine b_bipush hO dX2_remember_20 ic_b_20 ?_
  refine b_irem hO dX2_remember_22 ?_
  refine b_putI hO flX2_18 kLX_16 rfl rfl rfl (id := 2049) rfl dX2_remember_23 ?_
  refine b_bnd (fun M23 => ?_)
  refine b_aload_n hO dX2_remember_26 0 rfl rfl ?_
  refine b_bipush hO dX2_remember_27 ic_b_20 ?_
  refine b_aload_n hO dX2_remember_29 0 rfl rfl ?_
  refine b_get hO flX2_22 kLX_16 (v := .int (gI _ 2050)) rfl dX2_remember_30 ?_
  refine b_iconst hO dX2_remember_33 ic_i_1 ?_
  refine b_iadd hO dX2_remember_34 ?_
  refine b_mmin hO w1139 w591 w136 wm592 (by first | decide | omega) (Nat.le_of_ble_eq_true rfl) dX2_remember_35 ?_
  refine b_putI hO flX2_22 kLX_16 rfl rfl rfl (id := 2050) rfl dX2_remember_38 ?_
  exact b_vret hO dX2_remember_41
theorem ctX2_remember (n0 : Nat) (hI : Inj LX ad) (M : Mem) : CT l LX D cy ad yX2_remember cX2_remember 2 none 2 (QV LX D cy ad) [.ref (ad 16), .ref (ad 10)] M (fX2_remember n0 M) :=
  CT.mk LXok hI (by decide) (Nat.le_of_ble_eq_true rfl) (fun hO => tfX2_remember n0 hO M)
/-! X2_bringBack -/
def fX2_bringBack (n0 : Nat) (M : Mem) : Option (Int32 × Mem) :=
  if 0 < (gI M 2050) then
    if (20 : Int32) = 0 then none else
    bnd (sI M 2049 (rem32 (((gI M 2049) + (20 : Int32)) - (1 : Int32)) (20 : Int32))) fun M22 =>
    bnd (sI M22 2050 ((gI M22 2050) - (1 : Int32))) fun M32 =>
    if oob (gI M32 2049) 20 then none else
    (fX6_bringBack n0 (63 + Int32.toNatClampNeg (gI M32 2049)) M32).bind fun z45 =>
    some ((1 : Int32), z45)
  else
    some ((0 : Int32), M)
theorem tfX2_bringBack (n0 : Nat) (hO : OKc p (rmL 2) s m args meth c LX D cy ad cX2_bringBack RX2 2 2 (some .boolean)) (M : Mem) : BL p l e (rmL 2) s m args below meth c LX D cy ad 2 (QI LX D cy ad) 0 [(0, .ref (ad 16)), (1, .ref (ad 10))] [] M (fX2_bringBack n0 M) := by
  unfold fX2_bringBack
  refine b_aload_n hO dX2_bringBack_0 0 rfl rfl ?_
  refine b_get hO flX2_22 kLX_16 (v := .int (gI _ 2050)) rfl dX2_bringBack_1 ?_
  refine b_if_gt hO dX2_bringBack_4 (tgt := 9) (by decide) ?_ ?_
  · refine b_aload_n hO dX2_bringBack_9 0 rfl rfl ?_
    refine b_aload_n hO dX2_bringBack_10 0 rfl rfl ?_
    refine b_get hO flX2_18 kLX_16 (v := .int (gI _ 2049)) rfl dX2_bringBack_11 ?_
    refine b_bipush hO dX2_bringBack_14 ic_b_20 ?_
    refine b_iadd hO dX2_bringBack_16 ?_
    refine b_iconst hO dX2_bringBack_17 ic_i_1 ?_
    refine b_isub hO dX2_bringBack_18 ?_
    refine b_bipush hO dX2_bringBack_19 ic_b_20 ?_
    refine b_irem hO dX2_bringBack_21 ?_
    refine b_putI hO flX2_18 kLX_16 rfl rfl rfl (id := 2049) rfl dX2_bringBack_22 ?_
    refine b_bnd (fun M22 => ?_)
    refine b_aload_n hO dX2_bringBack_25 0 rfl rfl ?_
    refine b_dup hO dX2_bringBack_26 rfl ?_
    refine b_get hO flX2_22 kLX_16 (v := .int (gI _ 2050)) rfl dX2_bringBack_27 ?_
    refine b_iconst hO dX2_bringBack_30 ic_i_1 ?_
    refine b_isub hO dX2_bringBack_31 ?_
    refine b_putI hO flX2_22 kLX_16 rfl rfl rfl (id := 2050) rfl dX2_bringBack_32 ?_
    refine b_bnd (fun M32 => ?_)
    refine b_aload_n hO dX2_bringBack_35 1 rfl rfl ?_
    refine b_aload_n hO dX2_bringBack_36 0 rfl rfl ?_
    refine b_get hO flX2_13 kLX_16 (v := .ref (ad 17)) rfl dX2_bringBack_37 ?_
    refine b_aload_n hO dX2_bringBack_40 0 rfl rfl ?_
    refine b_get hO flX2_18 kLX_16 (v := .int (gI _ 2049)) rfl dX2_bringBack_41 ?_
    refine b_aald hO kLX_17 (n := 20) rfl (b := 63) rfl dX2_bringBack_44 kg_17 (fun hg1 => ?_)
    refine b_callVV hO mdX6_bringBack mvX6_bringBack w1182 (ci := 6) rfl rfl (by decide) kLX_10 (As := [.ref _]) (st := []) (ctX6_bringBack n0 _ hg1 hO.2.2.2.2.2.2.1 _) (Nat.le_of_ble_eq_true rfl) rfl rfl (Nat.le_of_ble_eq_true rfl) dX2_bringBack_45 (fun z45 => ?_)
    refine b_iconst hO dX2_bringBack_48 ic_i_1 ?_
    exact b_zretc hO (Or.inr rfl) dX2_bringBack_49
  · refine b_iconst hO dX2_bringBack_7 ic_i_0 ?_
    exact b_zretc hO (Or.inl rfl) dX2_bringBack_8
theorem ctX2_bringBack (n0 : Nat) (hI : Inj LX ad) (M : Mem) : CT l LX D cy ad yX2_bringBack cX2_bringBack 2 (some .boolean) 2 (QI LX D cy ad) [.ref (ad 16), .ref (ad 10)] M (fX2_bringBack n0 M) :=
  CT.mk LXok hI (by decide) (Nat.le_of_ble_eq_true rfl) (fun hO => tfX2_bringBack n0 hO M)
end
