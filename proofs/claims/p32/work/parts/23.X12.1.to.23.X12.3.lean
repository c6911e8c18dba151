section
section
variable {p : Program} {l : Launch} {e : Env} {s : State} {m : MethodId} {args : Array Value} {below : List Frame} {meth : Method} {c : Code} {D : va_G} {cy : Nat → ClassId} {ad : Nat → Nat} {dd : Nat}

/-! X12_joins -/
def bX12_joins_0 (n0 : Nat) (k0 : Int32 → Mem → Option (Mem)) (x1 : Int32) (M : Mem) : Option (Mem) :=
  if oob ((gI M 41) - (1 : Int32)) 20 then none else
  if (gI M 44) ≤ (gA M 25 (Int32.toNatClampNeg ((gI M 41) - (1 : Int32)))) then
    some M
  else
    if oob ((gI M 44) - (1 : Int32)) 500 then none else
    (fX12_rank n0 (gA M 26 (Int32.toNatClampNeg ((gI M 44) - (1 : Int32)))) M).bind fun z29 =>
    if z29.1 < x1 then
      some z29.2
    else
      bnd (sI z29.2 44 ((gI z29.2 44) - (1 : Int32))) fun M43 =>
      if oob (gI M43 44) 500 then none else
      (fX12_add n0 (gA M43 26 (Int32.toNatClampNeg (gI M43 44))) (0 : Int32) M43).bind fun z57 =>
      if oob (gI z57 44) 500 then none else
      if (gA z57 26 (Int32.toNatClampNeg (gI z57 44))) = (43 : Int32) then
        k0 x1 (sI z57 42 ((gI z57 42) - (1 : Int32)))
      else
        k0 x1 z57
def fX12_joins_0 (n0 : Nat) : Int32 → Mem → Option (Mem) := loopN (bX12_joins_0 n0) (fun _ _ => none) n0
def fX12_joins (n0 : Nat) (x1 : Int32) (M : Mem) : Option (Mem) :=
  fX12_joins_0 n0 x1 M
theorem tbX12_joins_0 (n0 : Nat) (hO : OKc p (rmL 2) s m args meth c LY D cy ad cX12_joins RX12 2 2 none) (k0 : Int32 → Mem → Option (Mem)) (hk0 : ∀ (x1 : Int32) (M : Mem), BL p l e (rmL 2) s m args below meth c LY D cy ad 2 (QV LY D cy ad) 0 [(0, .ref (ad 0)), (1, .int x1)] [] M (k0 x1 M)) (x1 : Int32) (M : Mem) : BL p l e (rmL 2) s m args below meth c LY D cy ad 2 (QV LY D cy ad) 0 [(0, .ref (ad 0)), (1, .int x1)] [] M (bX12_joins_0 n0 k0 x1 M) := by
  unfold bX12_joins_0
  refine b_aload_n hO dX12_joins_0 0 rfl rfl ?_
  refine b_get hO flX12_147 kLY_0 (v := .int (gI _ 44)) rfl dX12_joins_1 ?_
  refine b_aload_n hO dX12_joins_4 0 rfl rfl ?_
  refine b_get hO flX12_135 kLY_0 (v := .ref (ad 25)) rfl dX12_joins_5 ?_
  refine b_aload_n hO dX12_joins_8 0 rfl rfl ?_
  refine b_get hO flX12_138 kLY_0 (v := .int (gI _ 41)) rfl dX12_joins_9 ?_
  refine b_iconst hO dX12_joins_12 ic_i_1 ?_
  refine b_isub hO dX12_joins_13 ?_
  refine b_iald hO kLY_25 (n := 20) rfl dX12_joins_14 ?_
  refine b_icmp_le hO dX12_joins_15 (tgt := 87) (by decide) ?_ ?_
  · exact b_vret hO dX12_joins_87
  · refine b_aload_n hO dX12_joins_18 0 rfl rfl ?_
    refine b_get hO flX12_144 kLY_0 (v := .ref (ad 26)) rfl dX12_joins_19 ?_
    refine b_aload_n hO dX12_joins_22 0 rfl rfl ?_
    refine b_get hO flX12_147 kLY_0 (v := .int (gI _ 44)) rfl dX12_joins_23 ?_
    refine b_iconst hO dX12_joins_26 ic_i_1 ?_
    refine b_isub hO dX12_joins_27 ?_
    refine b_iald hO kLY_26 (n := 500) rfl dX12_joins_28 ?_
    refine b_callSI hO mdX12_rank w1630 w1629 (As := [.int _]) (st := []) (ctX12_rank n0 hO.2.2.2.2.2.2.1 _ _) (Nat.le_of_ble_eq_true rfl) rfl rfl (Nat.le_of_ble_eq_true rfl) dX12_joins_29 (fun z29 => ?_)
    refine b_iload_n hO dX12_joins_32 1 rfl rfl ?_
    refine b_icmp_lt hO dX12_joins_33 (tgt := 87) (by decide) ?_ ?_
    · exact b_vret hO dX12_joins_87
    · refine b_aload_n hO dX12_joins_36 0 rfl rfl ?_
      refine b_dup hO dX12_joins_37 rfl ?_
      refine b_get hO flX12_147 kLY_0 (v := .int (gI _ 44)) rfl dX12_joins_38 ?_
      refine b_iconst hO dX12_joins_41 ic_i_1 ?_
      refine b_isub hO dX12_joins_42 ?_
      refine b_putI hO flX12_147 kLY_0 rfl rfl rfl (id := 44) rfl dX12_joins_43 ?_
      refine b_bnd (fun M43 => ?_)
      refine b_aload_n hO dX12_joins_46 0 rfl rfl ?_
      refine b_aload_n hO dX12_joins_47 0 rfl rfl ?_
      refine b_get hO flX12_144 kLY_0 (v := .ref (ad 26)) rfl dX12_joins_48 ?_
      refine b_aload_n hO dX12_joins_51 0 rfl rfl ?_
      refine b_get hO flX12_147 kLY_0 (v := .int (gI _ 44)) rfl dX12_joins_52 ?_
      refine b_iald hO kLY_26 (n := 500) rfl dX12_joins_55 ?_
      refine b_iconst hO dX12_joins_56 ic_i_0 ?_
      refine b_callVV hO mdX12_add mvX12_add w1617 (ci := 12) rfl rfl (by decide) kLY_0 (As := [.int _, .int _]) (st := []) (ctX12_add n0 hO.2.2.2.2.2.2.1 _ _ _) (Nat.le_of_ble_eq_true rfl) rfl rfl (Nat.le_of_ble_eq_true rfl) dX12_joins_57 (fun z57 => ?_)
      refine b_aload_n hO dX12_joins_60 0 rfl rfl ?_
      refine b_get hO flX12_144 kLY_0 (v := .ref (ad 26)) rfl dX12_joins_61 ?_
      refine b_aload_n hO dX12_joins_64 0 rfl rfl ?_
      refine b_get hO flX12_147 kLY_0 (v := .int (gI _ 44)) rfl dX12_joins_65 ?_
      refine b_iald hO kLY_26 (n := 500) rfl dX12_joins_68 ?_
      refine b_bipush hO dX12_joins_69 ic_b_43 ?_
      refine b_icmp_ne hO dX12_joins_71 (tgt := 0) (by decide) ?_ ?_
      · exact hk0 _ _
      · refine b_aload_n hO dX12_joins_74 0 rfl rfl ?_
        refine b_dup hO dX12_joins_75 rfl ?_
        refine b_get hO flX12_141 kLY_0 (v := .int (gI _ 42)) rfl dX12_joins_76 ?_
        refine b_iconst hO dX12_joins_79 ic_i_1 ?_
        refine b_isub hO dX12_joins_80 ?_
        refine b_putI hO flX12_141 kLY_0 rfl rfl rfl (id := 42) rfl dX12_joins_81 ?_
        refine b_goto hO dX12_joins_84 (tgt := 0) (by decide) ?_
        exact hk0 _ _
theorem lX12_joins_0 (n0 : Nat) (hO : OKc p (rmL 2) s m args meth c LY D cy ad cX12_joins RX12 2 2 none) : ∀ (w : Nat) (x1 : Int32) (M : Mem), BL p l e (rmL 2) s m args below meth c LY D cy ad 2 (QV LY D cy ad) 0 [(0, .ref (ad 0)), (1, .int x1)] [] M (loopN (bX12_joins_0 n0) (fun _ _ => none) w x1 M) := by
  intro w
  induction w with
  | zero =>
    intros
    exact b_none
  | succ w ih =>
    intro x1 M
    exact tbX12_joins_0 n0 hO _ ih x1 M
theorem tfX12_joins_0 (n0 : Nat) (hO : OKc p (rmL 2) s m args meth c LY D cy ad cX12_joins RX12 2 2 none) (x1 : Int32) (M : Mem) : BL p l e (rmL 2) s m args below meth c LY D cy ad 2 (QV LY D cy ad) 0 [(0, .ref (ad 0)), (1, .int x1)] [] M (fX12_joins_0 n0 x1 M) := lX12_joins_0 n0 hO n0 x1 M
theorem tfX12_joins (n0 : Nat) (hO : OKc p (rmL 2) s m args meth c LY D cy ad cX12_joins RX12 2 2 none) (x1 : Int32) (M : Mem) : BL p l e (rmL 2) s m args below meth c LY D cy ad 2 (QV LY D cy ad) 0 [(0, .ref (ad 0)), (1, .int x1)] [] M (fX12_joins n0 x1 M) := by
  unfold fX12_joins
  exact tfX12_joins_0 n0 hO _ _
theorem ctX12_joins (n0 : Nat) (hI : Inj LY ad) (x1 : Int32) (M : Mem) : CT l LY D cy ad yX12_joins cX12_joins 2 none 2 (QV LY D cy ad) [.ref (ad 0), .int x1] M (fX12_joins n0 x1 M) :=
  CT.mk LYok hI (by decide) (Nat.le_of_ble_eq_true rfl) (fun hO => tfX12_joins n0 hO x1 M)
/-! X12_holdsBack -/
def fX12_holdsBack (n0 : Nat) (x1 : Int32) (M : Mem) : Option (Mem) :=
  if oob (gI M 44) 500 then none else
  bnd (sA M 26 (Int32.toNatClampNeg (gI M 44)) x1) fun M9 =>
  some (sI M9 44 ((gI M9 44) + (1 : Int32)))
theorem tfX12_holdsBack (n0 : Nat) (hO : OKc p (rmL 1) s m args meth c LY D cy ad cX12_holdsBack RX12 2 1 none) (x1 : Int32) (M : Mem) : BL p l e (rmL 1) s m args below meth c LY D cy ad 2 (QV LY D cy ad) 0 [(0, .ref (ad 0)), (1, .int x1)] [] M (fX12_holdsBack n0 x1 M) := by
  unfold fX12_holdsBack
  refine b_aload_n hO dX12_holdsBack_0 0 rfl rfl ?_
  refine b_get hO flX12_144 kLY_0 (v := .ref (ad 26)) rfl dX12_holdsBack_1 ?_
  refine b_aload_n hO dX12_holdsBack_4 0 rfl rfl ?_
  refine b_get hO flX12_147 kLY_0 (v := .int (gI _ 44)) rfl dX12_holdsBack_5 ?_
  refine b_iload_n hO dX12_holdsBack_8 1 rfl rfl ?_
  refine b_iast hO kLY_26 (n := 500) rfl dX12_holdsBack_9 ?_
  refine b_bnd (fun M9 => ?_)
  refine b_aload_n hO dX12_holdsBack_10 0 rfl rfl ?_
  refine b_dup hO dX12_holdsBack_11 rfl ?_
  refine b_get hO flX12_147 kLY_0 (v := .int (gI _ 44)) rfl dX12_holdsBack_12 ?_
  refine b_iconst hO dX12_holdsBack_15 ic_i_1 ?_
  refine b_iadd hO dX12_holdsBack_16 ?_
  refine b_putI hO flX12_147 kLY_0 rfl rfl rfl (id := 44) rfl dX12_holdsBack_17 ?_
  exact b_vret hO dX12_holdsBack_20
theorem ctX12_holdsBack (n0 : Nat) (hI : Inj LY ad) (x1 : Int32) (M : Mem) : CT l LY D cy ad yX12_holdsBack cX12_holdsBack 2 none 1 (QV LY D cy ad) [.ref (ad 0), .int x1] M (fX12_holdsBack n0 x1 M) :=
  CT.mk LYok hI (by decide) (Nat.le_of_ble_eq_true rfl) (fun hO => tfX12_holdsBack n0 hO x1 M)
/-! X12_pushes -/
def fX12_pushes (n0 : Nat) (x1 : Int32) (M : Mem) : Option (Mem) :=
  if oob (gI M 41) 20 then none else
  bnd (sA M 21 (Int32.toNatClampNeg (gI M 41)) x1) fun M9 =>
  if oob (gI M9 41) 20 then none else
  bnd (sA M9 22 (Int32.toNatClampNeg (gI M9 41)) (0 : Int32)) fun M19 =>
  if oob (gI M19 41) 20 then none else
  bnd (sA M19 23 (Int32.toNatClampNeg (gI M19 41)) (1 : Int32)) fun M29 =>
  if oob (gI M29 41) 20 then none else
  bnd (sA M29 25 (Int32.toNatClampNeg (gI M29 41)) (gI M29 44)) fun M42 =>
  some (sI M42 41 ((gI M42 41) + (1 : Int32)))
theorem tfX12_pushes (n0 : Nat) (hO : OKc p (rmL 1) s m args meth c LY D cy ad cX12_pushes RX12 2 1 none) (x1 : Int32) (M : Mem) : BL p l e (rmL 1) s m args below meth c LY D cy ad 2 (QV LY D cy ad) 0 [(0, .ref (ad 0)), (1, .int x1)] [] M (fX12_pushes n0 x1 M) := by
  unfold fX12_pushes
  refine b_aload_n hO dX12_pushes_0 0 rfl rfl ?_
  refine b_get hO flX12_122 kLY_0 (v := .ref (ad 21)) rfl dX12_pushes_1 ?_
  refine b_aload_n hO dX12_pushes_4 0 rfl rfl ?_
  refine b_get hO flX12_138 kLY_0 (v := .int (gI _ 41)) rfl dX12_pushes_5 ?_
  refine b_iload_n hO dX12_pushes_8 1 rfl rfl ?_
  refine b_iast hO kLY_21 (n := 20) rfl dX12_pushes_9 ?_
  refine b_bnd (fun M9 => ?_)
  refine b_aload_n hO dX12_pushes_10 0 rfl rfl ?_
  refine b_get hO flX12_125 kLY_0 (v := .ref (ad 22)) rfl dX12_pushes_11 ?_
  refine b_aload_n hO dX12_pushes_14 0 rfl rfl ?_
  refine b_get hO flX12_138 kLY_0 (v := .int (gI _ 41)) rfl dX12_pushes_15 ?_
  refine b_iconst hO dX12_pushes_18 ic_i_0 ?_
  refine b_iast hO kLY_22 (n := 20) rfl dX12_pushes_19 ?_
  refine b_bnd (fun M19 => ?_)
  refine b_aload_n hO dX12_pushes_20 0 rfl rfl ?_
  refine b_get hO flX12_128 kLY_0 (v := .ref (ad 23)) rfl dX12_pushes_21 ?_
  refine b_aload_n hO dX12_pushes_24 0 rfl rfl ?_
  refine b_get hO flX12_138 kLY_0 (v := .int (gI _ 41)) rfl dX12_pushes_25 ?_
  refine b_iconst hO dX12_pushes_28 ic_i_1 ?_
  refine b_zastc hO kLY_23 (n := 20) rfl (Or.inr rfl) dX12_pushes_29 ?_
  refine b_bnd (fun M29 => ?_)
  refine b_aload_n hO dX12_pushes_30 0 rfl rfl ?_
  refine b_get hO flX12_135 kLY_0 (v := .ref (ad 25)) rfl dX12_pushes_31 ?_
  refine b_aload_n hO dX12_pushes_34 0 rfl rfl ?_
  refine b_get hO flX12_138 kLY_0 (v := .int (gI _ 41)) rfl dX12_pushes_35 ?_
  refine b_aload_n hO dX12_pushes_38 0 rfl rfl ?_
  refine b_get hO flX12_147 kLY_0 (v := .int (gI _ 44)) rfl dX12_pushes_39 ?_
  refine b_iast hO kLY_25 (n := 20) rfl dX12_pushes_42 ?_
  refine b_bnd (fun M42 => ?_)
  refine b_aload_n hO dX12_pushes_43 0 rfl rfl ?_
  refine b_dup hO dX12_pushes_44 rfl ?_
  refine b_get hO flX12_138 kLY_0 (v := .int (gI _ 41)) rfl dX12_pushes_45 ?_
  refine b_iconst hO dX12_pushes_48 ic_i_1 ?_
  refine b_iadd hO dX12_pushes_49 ?_
  refine b_putI hO flX12_138 kLY_0 rfl rfl rfl (id := 41) rfl dX12_pushes_50 ?_
  exact b_vret hO dX12_pushes_53
theorem ctX12_pushes (n0 : Nat) (hI : Inj LY ad) (x1 : Int32) (M : Mem) : CT l LY D cy ad yX12_pushes cX12_pushes 2 none 1 (QV LY D cy ad) [.ref (ad 0), .int x1] M (fX12_pushes n0 x1 M) :=
  CT.mk LYok hI (by decide) (Nat.le_of_ble_eq_true rfl) (fun hO => tfX12_pushes n0 hO x1 M)
/-! X12_opens -/
def fX12_opens_18 (n0 : Nat) (x1 : Int32) (M : Mem) : Option (Mem) :=
  if (gI M 8) ≤ 0 then
    bnd (sI M 42 ((gI M 42) + (1 : Int32))) fun M33 =>
    (fX12_ahead n0 M33).bind fun z37 =>
    (fX12_pushes n0 x1 z37).bind fun z42 =>
    some z42
  else
    some M
def fX12_opens (n0 : Nat) (x1 : Int32) (M : Mem) : Option (Mem) :=
  if (gI M 42) = (7 : Int32) then
    (fX12_blame n0 (5 : Int32) (gI M 4) M).bind fun z15 =>
    fX12_opens_18 n0 x1 z15
  else
    fX12_opens_18 n0 x1 M
theorem tfX12_opens_18 (n0 : Nat) (hO : OKc p (rmL 3) s m args meth c LY D cy ad cX12_opens RX12 2 3 none) (x1 : Int32) (M : Mem) : BL p l e (rmL 3) s m args below meth c LY D cy ad 2 (QV LY D cy ad) 18 [(0, .ref (ad 0)), (1, .int x1)] [] M (fX12_opens_18 n0 x1 M) := by
  unfold fX12_opens_18
  refine b_aload_n hO dX12_opens_18 0 rfl rfl ?_
  refine b_get hO flX12_36 kLY_0 (v := .int (gI _ 8)) rfl dX12_opens_19 ?_
  refine b_if_le hO dX12_opens_22 (tgt := 26) (by decide) ?_ ?_
  · refine b_aload_n hO dX12_opens_26 0 rfl rfl ?_
    refine b_dup hO dX12_opens_27 rfl ?_
    refine b_get hO flX12_141 kLY_0 (v := .int (gI _ 42)) rfl dX12_opens_28 ?_
    refine b_iconst hO dX12_opens_31 ic_i_1 ?_
    refine b_iadd hO dX12_opens_32 ?_
    refine b_putI hO flX12_141 kLY_0 rfl rfl rfl (id := 42) rfl dX12_opens_33 ?_
    refine b_bnd (fun M33 => ?_)
    refine b_aload_n hO dX12_opens_36 0 rfl rfl ?_
    refine b_callVV hO mdX12_ahead mvX12_ahead w1473 (ci := 12) rfl rfl (by decide) kLY_0 (As := []) (st := []) (ctX12_ahead n0 hO.2.2.2.2.2.2.1 _) (Nat.le_of_ble_eq_true rfl) rfl rfl (Nat.le_of_ble_eq_true rfl) dX12_opens_37 (fun z37 => ?_)
    refine b_aload_n hO dX12_opens_40 0 rfl rfl ?_
    refine b_iload_n hO dX12_opens_41 1 rfl rfl ?_
    refine b_callVV hO mdX12_pushes mvX12_pushes w1594 (ci := 12) rfl rfl (by decide) kLY_0 (As := [.int _]) (st := []) (ctX12_pushes n0 hO.2.2.2.2.2.2.1 _ _) (Nat.le_of_ble_eq_true rfl) rfl rfl (Nat.le_of_ble_eq_true rfl) dX12_opens_42 (fun z42 => ?_)
    exact b_vret hO dX12_opens_45
  · exact b_vret hO dX12_opens_25
theorem tfX12_opens (n0 : Nat) (hO : OKc p (rmL 3) s m args meth c LY D cy ad cX12_opens RX12 2 3 none) (x1 : Int32) (M : Mem) : BL p l e (rmL 3) s m args below meth c LY D cy ad 2 (QV LY D cy ad) 0 [(0, .ref (ad 0)), (1, .int x1)] [] M (fX12_opens n0 x1 M) := by
  unfold fX12_opens
  refine b_aload_n hO dX12_opens_0 0 rfl rfl ?_
  refine b_get hO flX12_141 kLY_0 (v := .int (gI _ 42)) rfl dX12_opens_1 ?_
  refine b_bipush hO dX12_opens_4 ic_b_7 ?_
  refine b_icmp_ne hO dX12_opens_6 (tgt := 18) (by decide) ?_ ?_
  · exact tfX12_opens_18 n0 hO _ _
  · refine b_aload_n hO dX12_opens_9 0 rfl rfl ?_
    refine b_iconst hO dX12_opens_10 ic_i_5 ?_
    refine b_aload_n hO dX12_opens_11 0 rfl rfl ?_
    refine b_get hO flX12_23 kLY_0 (v := .int (gI _ 4)) rfl dX12_opens_12 ?_
    refine b_callVV hO mdX12_blame mvX12_blame w1491 (ci := 12) rfl rfl (by decide) kLY_0 (As := [.int _, .int _]) (st := []) (ctX12_blame n0 hO.2.2.2.2.2.2.1 _ _ _) (Nat.le_of_ble_eq_true rfl) rfl rfl (Nat.le_of_ble_eq_true rfl) dX12_opens_15 (fun z15 => ?_)
    exact tfX12_opens_18 n0 hO _ _
theorem ctX12_opens (n0 : Nat) (hI : Inj LY ad) (x1 : Int32) (M : Mem) : CT l LY D cy ad yX12_opens cX12_opens 2 none 3 (QV LY D cy ad) [.ref (ad 0), .int x1] M (fX12_opens n0 x1 M) :=
  CT.mk LYok hI (by decide) (Nat.le_of_ble_eq_true rfl) (fun hO => tfX12_opens n0 hO x1 M)
/-! X12_isTest -/
def fX12_isTest (n0 : Nat) (x0 : Int32) (M : Mem) : Option (Int32 × Mem) :=
  if x0 = (1 : Int32) then
    some ((1 : Int32), M)
  else
    if x0 = (5 : Int32) then
      some ((1 : Int32), M)
    else
      if x0 = (6 : Int32) then
        some ((1 : Int32), M)
      else
        some ((0 : Int32), M)
theorem tfX12_isTest (n0 : Nat) (hO : OKc p (rmL 1) s m args meth c LY D cy ad cX12_isTest RX12 1 1 (some .boolean)) (x0 : Int32) (M : Mem) : BL p l e (rmL 1) s m args below meth c LY D cy ad 1 (QI LY D cy ad) 0 [(0, .int x0)] [] M (fX12_isTest n0 x0 M) := by
  unfold fX12_isTest
  refine b_iload_n hO dX12_isTest_0 0 rfl rfl ?_
  refine b_iconst hO dX12_isTest_1 ic_i_1 ?_
  refine b_icmp_eq hO dX12_isTest_2 (tgt := 16) (by decide) ?_ ?_
  · refine b_iconst hO dX12_isTest_16 ic_i_1 ?_
    refine b_goto hO dX12_isTest_17 (tgt := 21) (by decide) ?_
    exact b_zretc hO (Or.inr rfl) dX12_isTest_21
  · refine b_iload_n hO dX12_isTest_5 0 rfl rfl ?_
    refine b_iconst hO dX12_isTest_6 ic_i_5 ?_
    refine b_icmp_eq hO dX12_isTest_7 (tgt := 16) (by decide) ?_ ?_
    · refine b_iconst hO dX12_isTest_16 ic_i_1 ?_
      refine b_goto hO dX12_isTest_17 (tgt := 21) (by decide) ?_
      exact b_zretc hO (Or.inr rfl) dX12_isTest_21
    · refine b_iload_n hO dX12_isTest_10 0 rfl rfl ?_
      refine b_bipush hO dX12_isTest_11 ic_b_6 ?_
      refine b_icmp_ne hO dX12_isTest_13 (tgt := 20) (by decide) ?_ ?_
      · refine b_iconst hO dX12_isTest_20 ic_i_0 ?_
        exact b_zretc hO (Or.inl rfl) dX12_isTest_21
      · refine b_iconst hO dX12_isTest_16 ic_i_1 ?_
        refine b_goto hO dX12_isTest_17 (tgt := 21) (by decide) ?_
        exact b_zretc hO (Or.inr rfl) dX12_isTest_21
theorem ctX12_isTest (n0 : Nat) (hI : Inj LY ad) (x0 : Int32) (M : Mem) : CT l LY D cy ad yX12_isTest cX12_isTest 1 (some .boolean) 1 (QI LY D cy ad) [.int x0] M (fX12_isTest n0 x0 M) :=
  CT.mk LYok hI (by decide) (Nat.le_of_ble_eq_true rfl) (fun hO => tfX12_isTest n0 hO x0 M)
/-! X12_operand -/
def fX12_operand_79 (n0 : Nat) (M : Mem) : Option (Int32 × Mem) :=
  if (gI M 8) ≤ 0 then
    bnd (sI M 42 ((gI M 42) + (1 : Int32))) fun M95 =>
    (fX12_holdsBack n0 (43 : Int32) M95).bind fun z101 =>
    (fX12_ahead n0 z101).bind fun z105 =>
    some ((0 : Int32), z105)
  else
    some ((1 : Int32), M)
def fX12_operand_289 (n0 : Nat) (x3 : Int32) (u1 : Int32) (M : Mem) : Option (Int32 × Mem) :=
  (fX12_opens n0 u1 M).bind fun z289 =>
  if (gI z289 8) = 0 then
    if oob ((gI z289 41) - (1 : Int32)) 20 then none else
    some ((0 : Int32), (sA z289 24 (Int32.toNatClampNeg ((gI z289 41) - (1 : Int32))) x3))
  else
    some ((0 : Int32), z289)
def fX12_operand_276 (n0 : Nat) (x3 : Int32) (M : Mem) : Option (Int32 × Mem) :=
  if x3 = (44 : Int32) then
    fX12_operand_289 n0 x3 (6 : Int32) M
  else
    fX12_operand_289 n0 x3 (3 : Int32) M
def fX12_operand_249 (n0 : Nat) (u0 : Int32) (M : Mem) : Option (Int32 × Mem) :=
  (fX12_ahead n0 M).bind fun z251 =>
  (fX12_lex n0 z251).bind fun z255 =>
  (fX12_isSign n0 (40 : Int32) z255).bind fun z261 =>
  if z261.1 = 0 then
    (fX12_blame n0 (1 : Int32) (gI z261.2 4) z261.2).bind fun z273 =>
    fX12_operand_276 n0 u0 z273
  else
    fX12_operand_276 n0 u0 z261.2
def fX12_operand_217 (n0 : Nat) (M : Mem) : Option (Int32 × Mem) :=
  (fX12_isWord n0 (7170414 : Int64) M).bind fun z221 =>
  if z221.1 = 0 then
    (fX12_isWord n0 (7168376 : Int64) z221.2).bind fun z236 =>
    if z236.1 = 0 then
      fX12_operand_249 n0 (44 : Int32) z236.2
    else
      fX12_operand_249 n0 (37 : Int32) z236.2
  else
    fX12_operand_249 n0 (36 : Int32) z221.2
def fX12_operand_451 (n0 : Nat) (x3 : Int32) (M : Mem) : Option (Int32 × Mem) :=
  if (gI M 8) ≤ 0 then
    (fX12_add n0 x3 (gI M 6) M).bind fun z466 =>
    (fX12_ahead n0 z466).bind fun z470 =>
    some ((1 : Int32), z470)
  else
    some ((1 : Int32), M)
def fX12_operand_437 (n0 : Nat) (x3 : Int32) (M : Mem) : Option (Int32 × Mem) :=
  if x3 = (-1 : Int32) then
    (fX12_blame n0 (1 : Int32) (gI M 4) M).bind fun z448 =>
    fX12_operand_451 n0 x3 z448
  else
    fX12_operand_451 n0 x3 M
def fX12_operand_428 (n0 : Nat) (x3 : Int32) (u0 : Int32) (M : Mem) : Option (Int32 × Mem) :=
  if u0 = (gI M 35) then
    fX12_operand_437 n0 x3 M
  else
    fX12_operand_437 n0 (-1 : Int32) M
def fX12_operand_411 (n0 : Nat) (u0 : Int32) (M : Mem) : Option (Int32 × Mem) :=
  if u0 < (5 : Int32) then
    fX12_operand_437 n0 u0 M
  else
    if u0 = (6 : Int32) then
      fX12_operand_428 n0 u0 (1 : Int32) M
    else
      fX12_operand_428 n0 u0 (0 : Int32) M
def fX12_operand_171 (n0 : Nat) (M : Mem) : Option (Int32 × Mem) :=
  (fX12_isSign n0 (40 : Int32) M).bind fun z174 =>
  if z174.1 = 0 then
    (fX12_isWord n0 (7170414 : Int64) z174.2).bind fun z191 =>
    if z191.1 = 0 then
      (fX12_isWord n0 (7168376 : Int64) z191.2).bind fun z201 =>
      if z201.1 = 0 then
        (fX12_isWord n0 (26982 : Int64) z201.2).bind fun z211 =>
        if z211.1 = 0 then
          if (gI z211.2 3) = (2 : Int32) then
            fX12_operand_411 n0 (0 : Int32) z211.2
          else
            (fX12_isWord n0 (512802514792 : Int64) z211.2).bind fun z329 =>
            if z329.1 = 0 then
              (fX12_isWord n0 (1751477348 : Int64) z329.2).bind fun z343 =>
              if z343.1 = 0 then
                (fX12_isWord n0 (109330312357234 : Int64) z343.2).bind fun z357 =>
                if z357.1 = 0 then
                  (fX12_isWord n0 (120299592184933 : Int64) z357.2).bind fun z371 =>
                  if z371.1 = 0 then
                    (fX12_isWord n0 (435627783289 : Int64) z371.2).bind fun z385 =>
                    if z385.1 = 0 then
                      (fX12_isWord n0 (465491424371 : Int64) z385.2).bind fun z399 =>
                      if z399.1 = 0 then
                        fX12_operand_411 n0 (-1 : Int32) z399.2
                      else
                        fX12_operand_411 n0 (6 : Int32) z399.2
                    else
                      fX12_operand_411 n0 (5 : Int32) z385.2
                  else
                    fX12_operand_411 n0 (4 : Int32) z371.2
                else
                  fX12_operand_411 n0 (3 : Int32) z357.2
              else
                fX12_operand_411 n0 (2 : Int32) z343.2
            else
              fX12_operand_411 n0 (1 : Int32) z329.2
        else
          fX12_operand_217 n0 z211.2
      else
        fX12_operand_217 n0 z201.2
    else
      fX12_operand_217 n0 z191.2
  else
    (fX12_opens n0 (2 : Int32) z174.2).bind fun z182 =>
    some ((0 : Int32), z182)
def fX12_operand_137 (n0 : Nat) (x1 : Int32) (x2 : Int32) (M : Mem) : Option (Int32 × Mem) :=
  if x2 = 0 then
    fX12_operand_171 n0 M
  else
    (fX12_isWord n0 (6384748 : Int64) M).bind fun z145 =>
    if z145.1 = 0 then
      fX12_operand_171 n0 z145.2
    else
      (fX12_add n0 (30 : Int32) (0 : Int32) z145.2).bind fun z155 =>
      if oob x1 20 then none else
      bnd (sA z155 22 (Int32.toNatClampNeg x1) (2 : Int32)) fun M164 =>
      (fX12_ahead n0 M164).bind fun z166 =>
      some ((1 : Int32), z166)
def fX12_operand_110 (n0 : Nat) (x1 : Int32) (x2 : Int32) (M : Mem) : Option (Int32 × Mem) :=
  if oob x1 20 then none else
  bnd (sA M 23 (Int32.toNatClampNeg x1) (0 : Int32)) fun M116 =>
  if x2 = 0 then
    fX12_operand_137 n0 x1 x2 M116
  else
    (fX12_isSign n0 (91 : Int32) M116).bind fun z124 =>
    if z124.1 = 0 then
      fX12_operand_137 n0 x1 x2 z124.2
    else
      (fX12_opens n0 (5 : Int32) z124.2).bind fun z132 =>
      some ((0 : Int32), z132)
def fX12_operand_46 (n0 : Nat) (x1 : Int32) (u0 : Int32) (M : Mem) : Option (Int32 × Mem) :=
  if u0 = 0 then
    fX12_operand_110 n0 x1 u0 M
  else
    (fX12_isWord n0 (7237492 : Int64) M).bind fun z55 =>
    if z55.1 = 0 then
      fX12_operand_110 n0 x1 u0 z55.2
    else
      if (gI z55.2 42) = (7 : Int32) then
        (fX12_blame n0 (5 : Int32) (gI z55.2 4) z55.2).bind fun z76 =>
        fX12_operand_79 n0 z76
      else
        fX12_operand_79 n0 z55.2
def fX12_operand_45 (n0 : Nat) (x1 : Int32) (M : Mem) : Option (Int32 × Mem) :=
  fX12_operand_46 n0 x1 (0 : Int32) M
def fX12_operand (n0 : Nat) (M : Mem) : Option (Int32 × Mem) :=
  (fX12_lex n0 M).bind fun z1 =>
  if (gI z1 8) ≤ 0 then
    bnd ((gI z1 41) - (1 : Int32)) fun x1_19 =>
    if oob x1_19 20 then none else
    (fX12_isTest n0 (gA z1 21 (Int32.toNatClampNeg x1_19)) z1).bind fun z26 =>
    if z26.1 = 0 then
      fX12_operand_45 n0 x1_19 z26.2
    else
      if oob x1_19 20 then none else
      if (gA z26.2 23 (Int32.toNatClampNeg x1_19)) = 0 then
        fX12_operand_45 n0 x1_19 z26.2
      else
        fX12_operand_46 n0 x1_19 (1 : Int32) z26.2
  else
    some ((1 : Int32), z1)
theorem tfX12_operand_79 (n0 : Nat) (hO : OKc p (rmL 4) s m args meth c LY D cy ad cX12_operand RX12 4 4 (some .boolean)) (M : Mem) : BL p l e (rmL 4) s m args below meth c LY D cy ad 4 (QI LY D cy ad) 79 [(0, .ref (ad 0))] [] M (fX12_operand_79 n0 M) := by
  unfold fX12_operand_79
  refine b_aload_n hO dX12_operand_79 0 rfl rfl ?_
  refine b_get hO flX12_36 kLY_0 (v := .int (gI _ 8)) rfl dX12_operand_80 ?_
  refine b_if_le hO dX12_operand_83 (tgt := 88) (by decide) ?_ ?_
  · refine b_aload_n hO dX12_operand_88 0 rfl rfl ?_
    refine b_dup hO dX12_operand_89 rfl ?_
    refine b_get hO flX12_141 kLY_0 (v := .int (gI _ 42)) rfl dX12_operand_90 ?_
    refine b_iconst hO dX12_operand_93 ic_i_1 ?_
    refine b_iadd hO dX12_operand_94 ?_
    refine b_putI hO flX12_141 kLY_0 rfl rfl rfl (id := 42) rfl dX12_operand_95 ?_
    refine b_bnd (fun M95 => ?_)
    refine b_aload_n hO dX12_operand_98 0 rfl rfl ?_
    refine b_bipush hO dX12_operand_99 ic_b_43 ?_
    refine b_callVV hO mdX12_holdsBack mvX12_holdsBack w1605 (ci := 12) rfl rfl (by decide) kLY_0 (As := [.int _]) (st := []) (ctX12_holdsBack n0 hO.2.2.2.2.2.2.1 _ _) (Nat.le_of_ble_eq_true rfl) rfl rfl (Nat.le_of_ble_eq_true rfl) dX12_operand_101 (fun z101 => ?_)
    refine b_aload_n hO dX12_operand_104 0 rfl rfl ?_
    refine b_callVV hO mdX12_ahead mvX12_ahead w1473 (ci := 12) rfl rfl (by decide) kLY_0 (As := []) (st := []) (ctX12_ahead n0 hO.2.2.2.2.2.2.1 _) (Nat.le_of_ble_eq_true rfl) rfl rfl (Nat.le_of_ble_eq_true rfl) dX12_operand_105 (fun z105 => ?_)
    refine b_iconst hO dX12_operand_108 ic_i_0 ?_
    exact b_zretc hO (Or.inl rfl) dX12_operand_109
  · refine b_iconst hO dX12_operand_86 ic_i_1 ?_
    exact b_zretc hO (Or.inr rfl) dX12_operand_87
theorem tfX12_operand_289 (n0 : Nat) (hO : OKc p (rmL 4) s m args meth c LY D cy ad cX12_operand RX12 4 4 (some .boolean)) (x3 : Int32) (u1 : Int32) (M : Mem) : BL p l e (rmL 4) s m args below meth c LY D cy ad 4 (QI LY D cy ad) 289 [(0, .ref (ad 0)), (3, .int x3)] [.int u1, .ref (ad 0)] M (fX12_operand_289 n0 x3 u1 M) := by
  unfold fX12_operand_289
  refine b_callVV hO mdX12_opens mvX12_opens w1613 (ci := 12) rfl rfl (by decide) kLY_0 (As := [.int _]) (st := []) (ctX12_opens n0 hO.2.2.2.2.2.2.1 _ _) (Nat.le_of_ble_eq_true rfl) rfl rfl (Nat.le_of_ble_eq_true rfl) dX12_operand_289 (fun z289 => ?_)
  refine b_aload_n hO dX12_operand_292 0 rfl rfl ?_
  refine b_get hO flX12_36 kLY_0 (v := .int (gI _ 8)) rfl dX12_operand_293 ?_
  refine b_if_ne hO dX12_operand_296 (tgt := 311) (by decide) ?_ ?_
  · refine b_iconst hO dX12_operand_311 ic_i_0 ?_
    exact b_zretc hO (Or.inl rfl) dX12_operand_312
  · refine b_aload_n hO dX12_operand_299 0 rfl rfl ?_
    refine b_get hO flX12_132 kLY_0 (v := .ref (ad 24)) rfl dX12_operand_300 ?_
    refine b_aload_n hO dX12_operand_303 0 rfl rfl ?_
    refine b_get hO flX12_138 kLY_0 (v := .int (gI _ 41)) rfl dX12_operand_304 ?_
    refine b_iconst hO dX12_operand_307 ic_i_1 ?_
    refine b_isub hO dX12_operand_308 ?_
    refine b_iload_n hO dX12_operand_309 1 rfl rfl ?_
    refine b_iast hO kLY_24 (n := 20) rfl dX12_operand_310 ?_
    refine b_iconst hO dX12_operand_311 ic_i_0 ?_
    exact b_zretc hO (Or.inl rfl) dX12_operand_312
theorem tfX12_operand_276 (n0 : Nat) (hO : OKc p (rmL 4) s m args meth c LY D cy ad cX12_operand RX12 4 4 (some .boolean)) (x3 : Int32) (M : Mem) : BL p l e (rmL 4) s m args below meth c LY D cy ad 4 (QI LY D cy ad) 276 [(0, .ref (ad 0)), (3, .int x3)] [] M (fX12_operand_276 n0 x3 M) := by
  unfold fX12_operand_276
  refine b_aload_n hO dX12_operand_276 0 rfl rfl ?_
  refine b_iload_n hO dX12_operand_277 1 rfl rfl ?_
  refine b_bipush hO dX12_operand_278 ic_b_44 ?_
  refine b_icmp_ne hO dX12_operand_280 (tgt := 288) (by decide) ?_ ?_
  · refine b_iconst hO dX12_operand_288 ic_i_3 ?_
    exact tfX12_operand_289 n0 hO _ _ _
  · refine b_bipush hO dX12_operand_283 ic_b_6 ?_
    refine b_goto hO dX12_operand_285 (tgt := 289) (by decide) ?_
    exact tfX12_operand_289 n0 hO _ _ _
theorem tfX12_operand_249 (n0 : Nat) (hO : OKc p (rmL 4) s m args meth c LY D cy ad cX12_operand RX12 4 4 (some .boolean)) (u0 : Int32) (M : Mem) : BL p l e (rmL 4) s m args below meth c LY D cy ad 4 (QI LY D cy ad) 249 [(0, .ref (ad 0))] [.int u0] M (fX12_operand_249 n0 u0 M) := by
  unfold fX12_operand_249
  refine b_istore_n hO dX12_operand_249 rfl (by decide) (lv' := [(3, .int _), (0, .ref _)]) rfl ?_
  refine b_aload_n hO dX12_operand_250 1 rfl rfl ?_
  refine b_callVV hO mdX12_ahead mvX12_ahead w1473 (ci := 12) rfl rfl (by decide) kLY_0 (As := []) (st := []) (ctX12_ahead n0 hO.2.2.2.2.2.2.1 _) (Nat.le_of_ble_eq_true rfl) rfl rfl (Nat.le_of_ble_eq_true rfl) dX12_operand_251 (fun z251 => ?_)
  refine b_aload_n hO dX12_operand_254 1 rfl rfl ?_
  refine b_callVV hO mdX12_lex mvX12_lex w1487 (ci := 12) rfl rfl (by decide) kLY_0 (As := []) (st := []) (ctX12_lex n0 hO.2.2.2.2.2.2.1 _) (Nat.le_of_ble_eq_true rfl) rfl rfl (Nat.le_of_ble_eq_true rfl) dX12_operand_255 (fun z255 => ?_)
  refine b_aload_n hO dX12_operand_258 1 rfl rfl ?_
  refine b_bipush hO dX12_operand_259 ic_b_40 ?_
  refine b_callVI hO mdX12_isSign mvX12_isSign w1609 (ci := 12) rfl rfl (by decide) kLY_0 (As := [.int _]) (st := []) (ctX12_isSign n0 hO.2.2.2.2.2.2.1 _ _) (Nat.le_of_ble_eq_true rfl) rfl rfl (Nat.le_of_ble_eq_true rfl) dX12_operand_261 (fun z261 => ?_)
  refine b_if_ne hO dX12_operand_264 (tgt := 276) (by decide) ?_ ?_
  · refine b_sub [1, 0] rfl ?_
    exact tfX12_operand_276 n0 hO _ _
  · refine b_aload_n hO dX12_operand_267 1 rfl rfl ?_
    refine b_iconst hO dX12_operand_268 ic_i_1 ?_
    refine b_aload_n hO dX12_operand_269 1 rfl rfl ?_
    refine b_get hO flX12_23 kLY_0 (v := .int (gI _ 4)) rfl dX12_operand_270 ?_
    refine b_callVV hO mdX12_blame mvX12_blame w1491 (ci := 12) rfl rfl (by decide) kLY_0 (As := [.int _, .int _]) (st := []) (ctX12_blame n0 hO.2.2.2.2.2.2.1 _ _ _) (Nat.le_of_ble_eq_true rfl) rfl rfl (Nat.le_of_ble_eq_true rfl) dX12_operand_273 (fun z273 => ?_)
    refine b_sub [1, 0] rfl ?_
    exact tfX12_operand_276 n0 hO _ _
theorem tfX12_operand_217 (n0 : Nat) (hO : OKc p (rmL 4) s m args meth c LY D cy ad cX12_operand RX12 4 4 (some .boolean)) (M : Mem) : BL p l e (rmL 4) s m args below meth c LY D cy ad 4 (QI LY D cy ad) 217 [(0, .ref (ad 0))] [] M (fX12_operand_217 n0 M) := by
  unfold fX12_operand_217
  refine b_aload_n hO dX12_operand_217 0 rfl rfl ?_
  refine b_ldc2 hO w1538 dX12_operand_218 ?_
  refine b_callVI hO mdX12_isWord mvX12_isWord w1496 (ci := 12) rfl rfl (by decide) kLY_0 (As := [.long _]) (st := []) (ctX12_isWord n0 hO.2.2.2.2.2.2.1 _ _) (Nat.le_of_ble_eq_true rfl) rfl rfl (Nat.le_of_ble_eq_true rfl) dX12_operand_221 (fun z221 => ?_)
  refine b_if_eq hO dX12_operand_224 (tgt := 232) (by decide) ?_ ?_
  · refine b_aload_n hO dX12_operand_232 0 rfl rfl ?_
    refine b_ldc2 hO w1539 dX12_operand_233 ?_
    refine b_callVI hO mdX12_isWord mvX12_isWord w1496 (ci := 12) rfl rfl (by decide) kLY_0 (As := [.long _]) (st := []) (ctX12_isWord n0 hO.2.2.2.2.2.2.1 _ _) (Nat.le_of_ble_eq_true rfl) rfl rfl (Nat.le_of_ble_eq_true rfl) dX12_operand_236 (fun z236 => ?_)
    refine b_if_eq hO dX12_operand_239 (tgt := 247) (by decide) ?_ ?_
    · refine b_bipush hO dX12_operand_247 ic_b_44 ?_
      exact tfX12_operand_249 n0 hO _ _
    · refine b_bipush hO dX12_operand_242 ic_b_37 ?_
      refine b_goto hO dX12_operand_244 (tgt := 249) (by decide) ?_
      exact tfX12_operand_249 n0 hO _ _
  · refine b_bipush hO dX12_operand_227 ic_b_36 ?_
    refine b_goto hO dX12_operand_229 (tgt := 249) (by decide) ?_
    exact tfX12_operand_249 n0 hO _ _
theorem tfX12_operand_451 (n0 : Nat) (hO : OKc p (rmL 4) s m args meth c LY D cy ad cX12_operand RX12 4 4 (some .boolean)) (x3 : Int32) (M : Mem) : BL p l e (rmL 4) s m args below meth c LY D cy ad 4 (QI LY D cy ad) 451 [(0, .ref (ad 0)), (3, .int x3)] [] M (fX12_operand_451 n0 x3 M) := by
  unfold fX12_operand_451
  refine b_aload_n hO dX12_operand_451 0 rfl rfl ?_
  refine b_get hO flX12_36 kLY_0 (v := .int (gI _ 8)) rfl dX12_operand_452 ?_
  refine b_if_le hO dX12_operand_455 (tgt := 460) (by decide) ?_ ?_
  · refine b_aload_n hO dX12_operand_460 0 rfl rfl ?_
    refine b_iload_n hO dX12_operand_461 1 rfl rfl ?_
    refine b_aload_n hO dX12_operand_462 0 rfl rfl ?_
    refine b_get hO flX12_29 kLY_0 (v := .int (gI _ 6)) rfl dX12_operand_463 ?_
    refine b_callVV hO mdX12_add mvX12_add w1617 (ci := 12) rfl rfl (by decide) kLY_0 (As := [.int _, .int _]) (st := []) (ctX12_add n0 hO.2.2.2.2.2.2.1 _ _ _) (Nat.le_of_ble_eq_true rfl) rfl rfl (Nat.le_of_ble_eq_true rfl) dX12_operand_466 (fun z466 => ?_)
    refine b_aload_n hO dX12_operand_469 0 rfl rfl ?_
    refine b_callVV hO mdX12_ahead mvX12_ahead w1473 (ci := 12) rfl rfl (by decide) kLY_0 (As := []) (st := []) (ctX12_ahead n0 hO.2.2.2.2.2.2.1 _) (Nat.le_of_ble_eq_true rfl) rfl rfl (Nat.le_of_ble_eq_true rfl) dX12_operand_470 (fun z470 => ?_)
    refine b_iconst hO dX12_operand_473 ic_i_1 ?_
    exact b_zretc hO (Or.inr rfl) dX12_operand_474
  · refine b_iconst hO dX12_operand_458 ic_i_1 ?_
    exact b_zretc hO (Or.inr rfl) dX12_operand_459
theorem tfX12_operand_437 (n0 : Nat) (hO : OKc p (rmL 4) s m args meth c LY D cy ad cX12_operand RX12 4 4 (some .boolean)) (x3 : Int32) (M : Mem) : BL p l e (rmL 4) s m args below meth c LY D cy ad 4 (QI LY D cy ad) 437 [(0, .ref (ad 0)), (3, .int x3)] [] M (fX12_operand_437 n0 x3 M) := by
  unfold fX12_operand_437
  refine b_iload_n hO dX12_operand_437 1 rfl rfl ?_
  refine b_iconst hO dX12_operand_438 ic_i_m1 ?_
  refine b_icmp_ne hO dX12_operand_439 (tgt := 451) (by decide) ?_ ?_
  · exact tfX12_operand_451 n0 hO _ _
  · refine b_aload_n hO dX12_operand_442 0 rfl rfl ?_
    refine b_iconst hO dX12_operand_443 ic_i_1 ?_
    refine b_aload_n hO dX12_operand_444 0 rfl rfl ?_
    refine b_get hO flX12_23 kLY_0 (v := .int (gI _ 4)) rfl dX12_operand_445 ?_
    refine b_callVV hO mdX12_blame mvX12_blame w1491 (ci := 12) rfl rfl (by decide) kLY_0 (As := [.int _, .int _]) (st := []) (ctX12_blame n0 hO.2.2.2.2.2.2.1 _ _ _) (Nat.le_of_ble_eq_true rfl) rfl rfl (Nat.le_of_ble_eq_true rfl) dX12_operand_448 (fun z448 => ?_)
    exact tfX12_operand_451 n0 hO _ _
theorem tfX12_operand_428 (n0 : Nat) (hO : OKc p (rmL 4) s m args meth c LY D cy ad cX12_operand RX12 4 4 (some .boolean)) (x3 : Int32) (u0 : Int32) (M : Mem) : BL p l e (rmL 4) s m args below meth c LY D cy ad 4 (QI LY D cy ad) 428 [(0, .ref (ad 0)), (3, .int x3)] [.int u0] M (fX12_operand_428 n0 x3 u0 M) := by
  unfold fX12_operand_428
  refine b_aload_n hO dX12_operand_428 0 rfl rfl ?_
  refine b_get hO flX12_118 kLY_0 (v := .int (gI _ 35)) rfl dX12_operand_429 ?_
  refine b_icmp_eq hO dX12_operand_432 (tgt := 437) (by decide) ?_ ?_
  · exact tfX12_operand_437 n0 hO _ _
  · refine b_iconst hO dX12_operand_435 ic_i_m1 ?_
    refine b_istore_n hO dX12_operand_436 rfl (by decide) (lv' := [(3, .int _), (0, .ref _)]) rfl ?_
    refine b_sub [1, 0] rfl ?_
    exact tfX12_operand_437 n0 hO _ _
theorem tfX12_operand_411 (n0 : Nat) (hO : OKc p (rmL 4) s m args meth c LY D cy ad cX12_operand RX12 4 4 (some .boolean)) (u0 : Int32) (M : Mem) : BL p l e (rmL 4) s m args below meth c LY D cy ad 4 (QI LY D cy ad) 411 [(0, .ref (ad 0))] [.int u0] M (fX12_operand_411 n0 u0 M) := by
  unfold fX12_operand_411
  refine b_istore_n hO dX12_operand_411 rfl (by decide) (lv' := [(3, .int _), (0, .ref _)]) rfl ?_
  refine b_iload_n hO dX12_operand_412 0 rfl rfl ?_
  refine b_iconst hO dX12_operand_413 ic_i_5 ?_
  refine b_icmp_lt hO dX12_operand_414 (tgt := 437) (by decide) ?_ ?_
  · refine b_sub [1, 0] rfl ?_
    exact tfX12_operand_437 n0 hO _ _
  · refine b_iload_n hO dX12_operand_417 0 rfl rfl ?_
    refine b_bipush hO dX12_operand_418 ic_b_6 ?_
    refine b_icmp_ne hO dX12_operand_420 (tgt := 427) (by decide) ?_ ?_
    · refine b_iconst hO dX12_operand_427 ic_i_0 ?_
      refine b_sub [1, 0] rfl ?_
      exact tfX12_operand_428 n0 hO _ _ _
    · refine b_iconst hO dX12_operand_423 ic_i_1 ?_
      refine b_goto hO dX12_operand_424 (tgt := 428) (by decide) ?_
      refine b_sub [1, 0] rfl ?_
      exact tfX12_operand_428 n0 hO _ _ _
theorem tfX12_operand_171 (n0 : Nat) (hO : OKc p (rmL 4) s m args meth c LY D cy ad cX12_operand RX12 4 4 (some .boolean)) (M : Mem) : BL p l e (rmL 4) s m args below meth c LY D cy ad 4 (QI LY D cy ad) 171 [(0, .ref (ad 0))] [] M (fX12_operand_171 n0 M) := by
  unfold fX12_operand_171
  refine b_aload_n hO dX12_operand_171 0 rfl rfl ?_
  refine b_bipush hO dX12_operand_172 ic_b_40 ?_
  refine b_callVI hO mdX12_isSign mvX12_isSign w1609 (ci := 12) rfl rfl (by decide) kLY_0 (As := [.int _]) (st := []) (ctX12_isSign n0 hO.2.2.2.2.2.2.1 _ _) (Nat.le_of_ble_eq_true rfl) rfl rfl (Nat.le_of_ble_eq_true rfl) dX12_operand_174 (fun z174 => ?_)
  refine b_if_eq hO dX12_operand_177 (tgt := 187) (by decide) ?_ ?_
  · refine b_aload_n hO dX12_operand_187 0 rfl rfl ?_
    refine b_ldc2 hO w1538 dX12_operand_188 ?_
    refine b_callVI hO mdX12_isWord mvX12_isWord w1496 (ci := 12) rfl rfl (by decide) kLY_0 (As := [.long _]) (st := []) (ctX12_isWord n0 hO.2.2.2.2.2.2.1 _ _) (Nat.le_of_ble_eq_true rfl) rfl rfl (Nat.le_of_ble_eq_true rfl) dX12_operand_191 (fun z191 => ?_)
    refine b_if_ne hO dX12_operand_194 (tgt := 217) (by decide) ?_ ?_
    · exact tfX12_operand_217 n0 hO _
    · refine b_aload_n hO dX12_operand_197 0 rfl rfl ?_
      refine b_ldc2 hO w1539 dX12_operand_198 ?_
      refine b_callVI hO mdX12_isWord mvX12_isWord w1496 (ci := 12) rfl rfl (by decide) kLY_0 (As := [.long _]) (st := []) (ctX12_isWord n0 hO.2.2.2.2.2.2.1 _ _) (Nat.le_of_ble_eq_true rfl) rfl rfl (Nat.le_of_ble_eq_true rfl) dX12_operand_201 (fun z201 => ?_)
      refine b_if_ne hO dX12_operand_204 (tgt := 217) (by decide) ?_ ?_
      · exact tfX12_operand_217 n0 hO _
      · refine b_aload_n hO dX12_operand_207 0 rfl rfl ?_
        refine b_ldc2 hO w1533 dX12_operand_208 ?_
        refine b_callVI hO mdX12_isWord mvX12_isWord w1496 (ci := 12) rfl rfl (by decide) kLY_0 (As := [.long _]) (st := []) (ctX12_isWord n0 hO.2.2.2.2.2.2.1 _ _) (Nat.le_of_ble_eq_true rfl) rfl rfl (Nat.le_of_ble_eq_true rfl) dX12_operand_211 (fun z211 => ?_)
        refine b_if_eq hO dX12_operand_214 (tgt := 313) (by decide) ?_ ?_
        · refine b_aload_n hO dX12_operand_313 0 rfl rfl ?_
          refine b_get hO flX12_20 kLY_0 (v := .int (gI _ 3)) rfl dX12_operand_314 ?_
          refine b_iconst hO dX12_operand_317 ic_i_2 ?_
          refine b_icmp_ne hO dX12_operand_318 (tgt := 325) (by decide) ?_ ?_
          · refine b_aload_n hO dX12_operand_325 0 rfl rfl ?_
            refine b_ldc2 hO w1516 dX12_operand_326 ?_
            refine b_callVI hO mdX12_isWord mvX12_isWord w1496 (ci := 12) rfl rfl (by decide) kLY_0 (As := [.long _]) (st := []) (ctX12_isWord n0 hO.2.2.2.2.2.2.1 _ _) (Nat.le_of_ble_eq_true rfl) rfl rfl (Nat.le_of_ble_eq_true rfl) dX12_operand_329 (fun z329 => ?_)
            refine b_if_eq hO dX12_operand_332 (tgt := 339) (by decide) ?_ ?_
            · refine b_aload_n hO dX12_operand_339 0 rfl rfl ?_
              refine b_ldc2 hO w1530 dX12_operand_340 ?_
              refine b_callVI hO mdX12_isWord mvX12_isWord w1496 (ci := 12) rfl rfl (by decide) kLY_0 (As := [.long _]) (st := []) (ctX12_isWord n0 hO.2.2.2.2.2.2.1 _ _) (Nat.le_of_ble_eq_true rfl) rfl rfl (Nat.le_of_ble_eq_true rfl) dX12_operand_343 (fun z343 => ?_)
              refine b_if_eq hO dX12_operand_346 (tgt := 353) (by decide) ?_ ?_
              · refine b_aload_n hO dX12_operand_353 0 rfl rfl ?_
                refine b_ldc2 hO w1518 dX12_operand_354 ?_
                refine b_callVI hO mdX12_isWord mvX12_isWord w1496 (ci := 12) rfl rfl (by decide) kLY_0 (As := [.long _]) (st := []) (ctX12_isWord n0 hO.2.2.2.2.2.2.1 _ _) (Nat.le_of_ble_eq_true rfl) rfl rfl (Nat.le_of_ble_eq_true rfl) dX12_operand_357 (fun z357 => ?_)
                refine b_if_eq hO dX12_operand_360 (tgt := 367) (by decide) ?_ ?_
                · refine b_aload_n hO dX12_operand_367 0 rfl rfl ?_
                  refine b_ldc2 hO w1531 dX12_operand_368 ?_
                  refine b_callVI hO mdX12_isWord mvX12_isWord w1496 (ci := 12) rfl rfl (by decide) kLY_0 (As := [.long _]) (st := []) (ctX12_isWord n0 hO.2.2.2.2.2.2.1 _ _) (Nat.le_of_ble_eq_true rfl) rfl rfl (Nat.le_of_ble_eq_true rfl) dX12_operand_371 (fun z371 => ?_)
                  refine b_if_eq hO dX12_operand_374 (tgt := 381) (by decide) ?_ ?_
                  · refine b_aload_n hO dX12_operand_381 0 rfl rfl ?_
                    refine b_ldc2 hO w1532 dX12_operand_382 ?_
                    refine b_callVI hO mdX12_isWord mvX12_isWord w1496 (ci := 12) rfl rfl (by decide) kLY_0 (As := [.long _]) (st := []) (ctX12_isWord n0 hO.2.2.2.2.2.2.1 _ _) (Nat.le_of_ble_eq_true rfl) rfl rfl (Nat.le_of_ble_eq_true rfl) dX12_operand_385 (fun z385 => ?_)
                    refine b_if_eq hO dX12_operand_388 (tgt := 395) (by decide) ?_ ?_
                    · refine b_aload_n hO dX12_operand_395 0 rfl rfl ?_
                      refine b_ldc2 hO w1517 dX12_operand_396 ?_
                      refine b_callVI hO mdX12_isWord mvX12_isWord w1496 (ci := 12) rfl rfl (by decide) kLY_0 (As := [.long _]) (st := []) (ctX12_isWord n0 hO.2.2.2.2.2.2.1 _ _) (Nat.le_of_ble_eq_true rfl) rfl rfl (Nat.le_of_ble_eq_true rfl) dX12_operand_399 (fun z399 => ?_)
                      refine b_if_eq hO dX12_operand_402 (tgt := 410) (by decide) ?_ ?_
                      · refine b_iconst hO dX12_operand_410 ic_i_m1 ?_
                        exact tfX12_operand_411 n0 hO _ _
                      · refine b_bipush hO dX12_operand_405 ic_b_6 ?_
                        refine b_goto hO dX12_operand_407 (tgt := 411) (by decide) ?_
                        exact tfX12_operand_411 n0 hO _ _
                    · refine b_iconst hO dX12_operand_391 ic_i_5 ?_
                      refine b_goto hO dX12_operand_392 (tgt := 411) (by decide) ?_
                      exact tfX12_operand_411 n0 hO _ _
                  · refine b_iconst hO dX12_operand_377 ic_i_4 ?_
                    refine b_goto hO dX12_operand_378 (tgt := 411) (by decide) ?_
                    exact tfX12_operand_411 n0 hO _ _
                · refine b_iconst hO dX12_operand_363 ic_i_3 ?_
                  refine b_goto hO dX12_operand_364 (tgt := 411) (by decide) ?_
                  exact tfX12_operand_411 n0 hO _ _
              · refine b_iconst hO dX12_operand_349 ic_i_2 ?_
                refine b_goto hO dX12_operand_350 (tgt := 411) (by decide) ?_
                exact tfX12_operand_411 n0 hO _ _
            · refine b_iconst hO dX12_operand_335 ic_i_1 ?_
              refine b_goto hO dX12_operand_336 (tgt := 411) (by decide) ?_
              exact tfX12_operand_411 n0 hO _ _
          · refine b_iconst hO dX12_operand_321 ic_i_0 ?_
            refine b_goto hO dX12_operand_322 (tgt := 411) (by decide) ?_
            exact tfX12_operand_411 n0 hO _ _
        · exact tfX12_operand_217 n0 hO _
  · refine b_aload_n hO dX12_operand_180 0 rfl rfl ?_
    refine b_iconst hO dX12_operand_181 ic_i_2 ?_
    refine b_callVV hO mdX12_opens mvX12_opens w1613 (ci := 12) rfl rfl (by decide) kLY_0 (As := [.int _]) (st := []) (ctX12_opens n0 hO.2.2.2.2.2.2.1 _ _) (Nat.le_of_ble_eq_true rfl) rfl rfl (Nat.le_of_ble_eq_true rfl) dX12_operand_182 (fun z182 => ?_)
    refine b_iconst hO dX12_operand_185 ic_i_0 ?_
    exact b_zretc hO (Or.inl rfl) dX12_operand_186
theorem tfX12_operand_137 (n0 : Nat) (hO : OKc p (rmL 4) s m args meth c LY D cy ad cX12_operand RX12 4 4 (some .boolean)) (x1 : Int32) (x2 : Int32) (M : Mem) : BL p l e (rmL 4) s m args below meth c LY D cy ad 4 (QI LY D cy ad) 137 [(0, .ref (ad 0)), (1, .int x1), (2, .int x2)] [] M (fX12_operand_137 n0 x1 x2 M) := by
  unfold fX12_operand_137
  refine b_iload_n hO dX12_operand_137 2 rfl rfl ?_
  refine b_if_eq hO dX12_operand_138 (tgt := 171) (by decide) ?_ ?_
  · refine b_sub [0] rfl ?_
    exact tfX12_operand_171 n0 hO _
  · refine b_aload_n hO dX12_operand_141 0 rfl rfl ?_
    refine b_ldc2 hO w1537 dX12_operand_142 ?_
    refine b_callVI hO mdX12_isWord mvX12_isWord w1496 (ci := 12) rfl rfl (by decide) kLY_0 (As := [.long _]) (st := []) (ctX12_isWord n0 hO.2.2.2.2.2.2.1 _ _) (Nat.le_of_ble_eq_true rfl) rfl rfl (Nat.le_of_ble_eq_true rfl) dX12_operand_145 (fun z145 => ?_)
    refine b_if_eq hO dX12_operand_148 (tgt := 171) (by decide) ?_ ?_
    · refine b_sub [0] rfl ?_
      exact tfX12_operand_171 n0 hO _
    · refine b_aload_n hO dX12_operand_151 0 rfl rfl ?_
      refine b_bipush hO dX12_operand_152 ic_b_30 ?_
      refine b_iconst hO dX12_operand_154 ic_i_0 ?_
      refine b_callVV hO mdX12_add mvX12_add w1617 (ci := 12) rfl rfl (by decide) kLY_0 (As := [.int _, .int _]) (st := []) (ctX12_add n0 hO.2.2.2.2.2.2.1 _ _ _) (Nat.le_of_ble_eq_true rfl) rfl rfl (Nat.le_of_ble_eq_true rfl) dX12_operand_155 (fun z155 => ?_)
      refine b_aload_n hO dX12_operand_158 0 rfl rfl ?_
      refine b_get hO flX12_125 kLY_0 (v := .ref (ad 22)) rfl dX12_operand_159 ?_
      refine b_iload_n hO dX12_operand_162 1 rfl rfl ?_
      refine b_iconst hO dX12_operand_163 ic_i_2 ?_
      refine b_iast hO kLY_22 (n := 20) rfl dX12_operand_164 ?_
      refine b_bnd (fun M164 => ?_)
      refine b_aload_n hO dX12_operand_165 0 rfl rfl ?_
      refine b_callVV hO mdX12_ahead mvX12_ahead w1473 (ci := 12) rfl rfl (by decide) kLY_0 (As := []) (st := []) (ctX12_ahead n0 hO.2.2.2.2.2.2.1 _) (Nat.le_of_ble_eq_true rfl) rfl rfl (Nat.le_of_ble_eq_true rfl) dX12_operand_166 (fun z166 => ?_)
      refine b_iconst hO dX12_operand_169 ic_i_1 ?_
      exact b_zretc hO (Or.inr rfl) dX12_operand_170
theorem tfX12_operand_110 (n0 : Nat) (hO : OKc p (rmL 4) s m args meth c LY D cy ad cX12_operand RX12 4 4 (some .boolean)) (x1 : Int32) (x2 : Int32) (M : Mem) : BL p l e (rmL 4) s m args below meth c LY D cy ad 4 (QI LY D cy ad) 110 [(0, .ref (ad 0)), (1, .int x1), (2, .int x2)] [] M (fX12_operand_110 n0 x1 x2 M) := by
  unfold fX12_operand_110
  refine b_aload_n hO dX12_operand_110 0 rfl rfl ?_
  refine b_get hO flX12_128 kLY_0 (v := .ref (ad 23)) rfl dX12_operand_111 ?_
  refine b_iload_n hO dX12_operand_114 1 rfl rfl ?_
  refine b_iconst hO dX12_operand_115 ic_i_0 ?_
  refine b_zastc hO kLY_23 (n := 20) rfl (Or.inl rfl) dX12_operand_116 ?_
  refine b_bnd (fun M116 => ?_)
  refine b_iload_n hO dX12_operand_117 2 rfl rfl ?_
  refine b_if_eq hO dX12_operand_118 (tgt := 137) (by decide) ?_ ?_
  · exact tfX12_operand_137 n0 hO _ _ _
  · refine b_aload_n hO dX12_operand_121 0 rfl rfl ?_
    refine b_bipush hO dX12_operand_122 ic_b_91 ?_
    refine b_callVI hO mdX12_isSign mvX12_isSign w1609 (ci := 12) rfl rfl (by decide) kLY_0 (As := [.int _]) (st := []) (ctX12_isSign n0 hO.2.2.2.2.2.2.1 _ _) (Nat.le_of_ble_eq_true rfl) rfl rfl (Nat.le_of_ble_eq_true rfl) dX12_operand_124 (fun z124 => ?_)
    refine b_if_eq hO dX12_operand_127 (tgt := 137) (by decide) ?_ ?_
    · exact tfX12_operand_137 n0 hO _ _ _
    · refine b_aload_n hO dX12_operand_130 0 rfl rfl ?_
      refine b_iconst hO dX12_operand_131 ic_i_5 ?_
      refine b_callVV hO mdX12_opens mvX12_opens w1613 (ci := 12) rfl rfl (by decide) kLY_0 (As := [.int _]) (st := []) (ctX12_opens n0 hO.2.2.2.2.2.2.1 _ _) (Nat.le_of_ble_eq_true rfl) rfl rfl (Nat.le_of_ble_eq_true rfl) dX12_operand_132 (fun z132 => ?_)
      refine b_iconst hO dX12_operand_135 ic_i_0 ?_
      exact b_zretc hO (Or.inl rfl) dX12_operand_136
theorem tfX12_operand_46 (n0 : Nat) (hO : OKc p (rmL 4) s m args meth c LY D cy ad cX12_operand RX12 4 4 (some .boolean)) (x1 : Int32) (u0 : Int32) (M : Mem) : BL p l e (rmL 4) s m args below meth c LY D cy ad 4 (QI LY D cy ad) 46 [(0, .ref (ad 0)), (1, .int x1)] [.int u0] M (fX12_operand_46 n0 x1 u0 M) := by
  unfold fX12_operand_46
  refine b_istore_n hO dX12_operand_46 rfl (by decide) (lv' := [(2, .int _), (0, .ref _), (1, .int _)]) rfl ?_
  refine b_iload_n hO dX12_operand_47 0 rfl rfl ?_
  refine b_if_eq hO dX12_operand_48 (tgt := 110) (by decide) ?_ ?_
  · refine b_sub [1, 2, 0] rfl ?_
    exact tfX12_operand_110 n0 hO _ _ _
  · refine b_aload_n hO dX12_operand_51 1 rfl rfl ?_
    refine b_ldc2 hO w1536 dX12_operand_52 ?_
    refine b_callVI hO mdX12_isWord mvX12_isWord w1496 (ci := 12) rfl rfl (by decide) kLY_0 (As := [.long _]) (st := []) (ctX12_isWord n0 hO.2.2.2.2.2.2.1 _ _) (Nat.le_of_ble_eq_true rfl) rfl rfl (Nat.le_of_ble_eq_true rfl) dX12_operand_55 (fun z55 => ?_)
    refine b_if_eq hO dX12_operand_58 (tgt := 110) (by decide) ?_ ?_
    · refine b_sub [1, 2, 0] rfl ?_
      exact tfX12_operand_110 n0 hO _ _ _
    · refine b_aload_n hO dX12_operand_61 1 rfl rfl ?_
      refine b_get hO flX12_141 kLY_0 (v := .int (gI _ 42)) rfl dX12_operand_62 ?_
      refine b_bipush hO dX12_operand_65 ic_b_7 ?_
      refine b_icmp_ne hO dX12_operand_67 (tgt := 79) (by decide) ?_ ?_
      · refine b_sub [1] rfl ?_
        exact tfX12_operand_79 n0 hO _
      · refine b_aload_n hO dX12_operand_70 1 rfl rfl ?_
        refine b_iconst hO dX12_operand_71 ic_i_5 ?_
        refine b_aload_n hO dX12_operand_72 1 rfl rfl ?_
        refine b_get hO flX12_23 kLY_0 (v := .int (gI _ 4)) rfl dX12_operand_73 ?_
        refine b_callVV hO mdX12_blame mvX12_blame w1491 (ci := 12) rfl rfl (by decide) kLY_0 (As := [.int _, .int _]) (st := []) (ctX12_blame n0 hO.2.2.2.2.2.2.1 _ _ _) (Nat.le_of_ble_eq_true rfl) rfl rfl (Nat.le_of_ble_eq_true rfl) dX12_operand_76 (fun z76 => ?_)
        refine b_sub [1] rfl ?_
        exact tfX12_operand_79 n0 hO _
theorem tfX12_operand_45 (n0 : Nat) (hO : OKc p (rmL 4) s m args meth c LY D cy ad cX12_operand RX12 4 4 (some .boolean)) (x1 : Int32) (M : Mem) : BL p l e (rmL 4) s m args below meth c LY D cy ad 4 (QI LY D cy ad) 45 [(0, .ref (ad 0)), (1, .int x1)] [] M (fX12_operand_45 n0 x1 M) := by
  unfold fX12_operand_45
  refine b_iconst hO dX12_operand_45 ic_i_0 ?_
  exact tfX12_operand_46 n0 hO _ _ _
theorem tfX12_operand (n0 : Nat) (hO : OKc p (rmL 4) s m args meth c LY D cy ad cX12_operand RX12 4 4 (some .boolean)) (M : Mem) : BL p l e (rmL 4) s m args below meth c LY D cy ad 4 (QI LY D cy ad) 0 [(0, .ref (ad 0))] [] M (fX12_operand n0 M) := by
  unfold fX12_operand
  refine b_aload_n hO dX12_operand_0 0 rfl rfl ?_
  refine b_callVV hO mdX12_lex mvX12_lex w1487 (ci := 12) rfl rfl (by decide) kLY_0 (As := []) (st := []) (ctX12_lex n0 hO.2.2.2.2.2.2.1 _) (Nat.le_of_ble_eq_true rfl) rfl rfl (Nat.le_of_ble_eq_true rfl) dX12_operand_1 (fun z1 => ?_)
  refine b_aload_n hO dX12_operand_4 0 rfl rfl ?_
  refine b_get hO flX12_36 kLY_0 (v := .int (gI _ 8)) rfl dX12_operand_5 ?_
  refine b_if_le hO dX12_operand_8 (tgt := 13) (by decide) ?_ ?_
  · refine b_aload_n hO dX12_operand_13 0 rfl rfl ?_
    refine b_get hO flX12_138 kLY_0 (v := .int (gI _ 41)) rfl dX12_operand_14 ?_
    refine b_iconst hO dX12_operand_17 ic_i_1 ?_
    refine b_isub hO dX12_operand_18 ?_
    refine b_topI (fun x1_19 => ?_)
    refine b_istore_n hO dX12_operand_19 rfl (by decide) (lv' := [(1, .int _), (0, .ref _)]) rfl ?_
    refine b_aload_n hO dX12_operand_20 1 rfl rfl ?_
    refine b_get hO flX12_122 kLY_0 (v := .ref (ad 21)) rfl dX12_operand_21 ?_
    refine b_iload_n hO dX12_operand_24 0 rfl rfl ?_
    refine b_iald hO kLY_21 (n := 20) rfl dX12_operand_25 ?_
    refine b_callSI hO mdX12_isTest w1603 w1602 (As := [.int _]) (st := []) (ctX12_isTest n0 hO.2.2.2.2.2.2.1 _ _) (Nat.le_of_ble_eq_true rfl) rfl rfl (Nat.le_of_ble_eq_true rfl) dX12_operand_26 (fun z26 => ?_)
    refine b_if_eq hO dX12_operand_29 (tgt := 45) (by decide) ?_ ?_
    · refine b_sub [1, 0] rfl ?_
      exact tfX12_operand_45 n0 hO _ _
    · refine b_aload_n hO dX12_operand_32 1 rfl rfl ?_
      refine b_get hO flX12_128 kLY_0 (v := .ref (ad 23)) rfl dX12_operand_33 ?_
      refine b_iload_n hO dX12_operand_36 0 rfl rfl ?_
      refine b_zald hO kLY_23 (n := 20) rfl dX12_operand_37 ?_
      refine b_if_eq hO dX12_operand_38 (tgt := 45) (by decide) ?_ ?_
      · refine b_sub [1, 0] rfl ?_
        exact tfX12_operand_45 n0 hO _ _
      · refine b_iconst hO dX12_operand_41 ic_i_1 ?_
        refine b_goto hO dX12_operand_42 (tgt := 46) (by decide) ?_
        refine b_sub [1, 0] rfl ?_
        exact tfX12_operand_46 n0 hO _ _ _
  · refine b_iconst hO dX12_operand_11 ic_i_1 ?_
    exact b_zretc hO (Or.inr rfl) dX12_operand_12
theorem ctX12_operand (n0 : Nat) (hI : Inj LY ad) (M : Mem) : CT l LY D cy ad yX12_operand cX12_operand 4 (some .boolean) 4 (QI LY D cy ad) [.ref (ad 0)] M (fX12_operand n0 M) :=
  CT.mk LYok hI (by decide) (Nat.le_of_ble_eq_true rfl) (fun hO => tfX12_operand n0 hO M)
end
end
section
section
variable {p : Program} {l : Launch} {e : Env} {s : State} {m : MethodId} {args : Array Value} {below : List Frame} {meth : Method} {c : Code} {D : va_G} {cy : Nat → ClassId} {ad : Nat → Nat} {dd : Nat}

/-! X12_goesOn -/
def fX12_goesOn_174 (n0 : Nat) (u1 : Int32) (M : Mem) : Option (Int32 × Mem) :=
  (fX12_holdsBack n0 u1 M).bind fun z174 =>
  (fX12_ahead n0 z174).bind fun z178 =>
  bnd (sI z178 45 (0 : Int32)) fun M183 =>
  some ((1 : Int32), M183)
def fX12_goesOn_112 (n0 : Nat) (u1 : Int32) (M : Mem) : Option (Int32 × Mem) :=
  (fX12_joins n0 u1 M).bind fun z112 =>
  (fX12_isSign n0 (43 : Int32) z112).bind fun z119 =>
  if z119.1 = 0 then
    (fX12_isSign n0 (45 : Int32) z119.2).bind fun z133 =>
    if z133.1 = 0 then
      (fX12_isSign n0 (42 : Int32) z133.2).bind fun z147 =>
      if z147.1 = 0 then
        (fX12_isSign n0 (47 : Int32) z147.2).bind fun z161 =>
        if z161.1 = 0 then
          fX12_goesOn_174 n0 (35 : Int32) z161.2
        else
          fX12_goesOn_174 n0 (34 : Int32) z161.2
      else
        fX12_goesOn_174 n0 (33 : Int32) z147.2
    else
      fX12_goesOn_174 n0 (32 : Int32) z133.2
  else
    fX12_goesOn_174 n0 (31 : Int32) z119.2
def fX12_goesOn_106 (n0 : Nat) (M : Mem) : Option (Int32 × Mem) :=
  fX12_goesOn_112 n0 (5 : Int32) M
def fX12_goesOn_87 (n0 : Nat) (M : Mem) : Option (Int32 × Mem) :=
  (fX12_isSign n0 (43 : Int32) M).bind fun z91 =>
  if z91.1 = 0 then
    (fX12_isSign n0 (45 : Int32) z91.2).bind fun z100 =>
    if z100.1 = 0 then
      fX12_goesOn_112 n0 (6 : Int32) z100.2
    else
      fX12_goesOn_106 n0 z100.2
  else
    fX12_goesOn_106 n0 z91.2
def fX12_goesOn_264 (n0 : Nat) (x1 : Int32) (u1 : Int32) (M : Mem) : Option (Int32 × Mem) :=
  (fX12_holdsBack n0 u1 M).bind fun z264 =>
  if oob x1 20 then none else
  bnd (sA z264 22 (Int32.toNatClampNeg x1) (1 : Int32)) fun M273 =>
  (fX12_ahead n0 M273).bind fun z275 =>
  bnd (sI z275 45 (0 : Int32)) fun M280 =>
  some ((1 : Int32), M280)
def fX12_goesOn_228 (n0 : Nat) (x1 : Int32) (M : Mem) : Option (Int32 × Mem) :=
  (fX12_joins n0 (5 : Int32) M).bind fun z230 =>
  (fX12_isSign n0 (60 : Int32) z230).bind fun z237 =>
  if z237.1 = 0 then
    (fX12_isSign n0 (62 : Int32) z237.2).bind fun z251 =>
    if z251.1 = 0 then
      fX12_goesOn_264 n0 x1 (40 : Int32) z251.2
    else
      fX12_goesOn_264 n0 x1 (39 : Int32) z251.2
  else
    fX12_goesOn_264 n0 x1 (38 : Int32) z237.2
def fX12_goesOn_372 (n0 : Nat) (x1 : Int32) (u1 : Int32) (M : Mem) : Option (Int32 × Mem) :=
  (fX12_holdsBack n0 u1 M).bind fun z372 =>
  if oob x1 20 then none else
  bnd (sA z372 22 (Int32.toNatClampNeg x1) (0 : Int32)) fun M381 =>
  if oob x1 20 then none else
  bnd (sA M381 23 (Int32.toNatClampNeg x1) (1 : Int32)) fun M388 =>
  (fX12_ahead n0 M388).bind fun z390 =>
  bnd (sI z390 45 (0 : Int32)) fun M395 =>
  some ((1 : Int32), M395)
def fX12_goesOn_356 (n0 : Nat) (x1 : Int32) (x4 : Int32) (u1 : Int32) (M : Mem) : Option (Int32 × Mem) :=
  (fX12_joins n0 u1 M).bind fun z356 =>
  if x4 = 0 then
    fX12_goesOn_372 n0 x1 (42 : Int32) z356
  else
    fX12_goesOn_372 n0 x1 (41 : Int32) z356
def fX12_goesOn_327 (n0 : Nat) (x1 : Int32) (M : Mem) : Option (Int32 × Mem) :=
  if (gI M 8) ≤ 0 then
    (fX12_isWord n0 (6385252 : Int64) M).bind fun z340 =>
    if z340.1 = 0 then
      fX12_goesOn_356 n0 x1 z340.1 (1 : Int32) z340.2
    else
      fX12_goesOn_356 n0 x1 z340.1 (2 : Int32) z340.2
  else
    some ((0 : Int32), M)
def fX12_goesOn_309 (n0 : Nat) (x1 : Int32) (M : Mem) : Option (Int32 × Mem) :=
  if oob x1 20 then none else
  if (gA M 22 (Int32.toNatClampNeg x1)) = 0 then
    (fX12_blame n0 (1 : Int32) (gI M 4) M).bind fun z324 =>
    fX12_goesOn_327 n0 x1 z324
  else
    fX12_goesOn_327 n0 x1 M
def fX12_goesOn_499 (n0 : Nat) (x1 : Int32) (u1 : Int32) (u2 : Int32) (M : Mem) : Option (Int32 × Mem) :=
  if oob u1 20 then none else
  bnd (sA M 21 (Int32.toNatClampNeg u1) u2) fun M499 =>
  if oob x1 20 then none else
  bnd (sA M499 22 (Int32.toNatClampNeg x1) (0 : Int32)) fun M506 =>
  (fX12_ahead n0 M506).bind fun z508 =>
  bnd (sI z508 45 (0 : Int32)) fun M513 =>
  some ((1 : Int32), M513)
def fX12_goesOn_470 (n0 : Nat) (x1 : Int32) (x2 : Int32) (M : Mem) : Option (Int32 × Mem) :=
  if (gI M 8) ≤ 0 then
    (fX12_joins n0 (1 : Int32) M).bind fun z481 =>
    if x2 = (3 : Int32) then
      fX12_goesOn_499 n0 x1 x1 (4 : Int32) z481
    else
      fX12_goesOn_499 n0 x1 x1 (3 : Int32) z481
  else
    some ((0 : Int32), M)
def fX12_goesOn_452 (n0 : Nat) (x1 : Int32) (x2 : Int32) (M : Mem) : Option (Int32 × Mem) :=
  (fX12_isSign n0 (44 : Int32) M).bind fun z455 =>
  if z455.1 = 0 then
    (fX12_blame n0 (1 : Int32) (gI z455.2 4) z455.2).bind fun z467 =>
    fX12_goesOn_470 n0 x1 x2 z467
  else
    fX12_goesOn_470 n0 x1 x2 z455.2
def fX12_goesOn_613 (n0 : Nat) (M : Mem) : Option (Int32 × Mem) :=
  (fX12_ahead n0 M).bind fun z614 =>
  some ((1 : Int32), z614)
def fX12_goesOn_596 (n0 : Nat) (x2 : Int32) (M : Mem) : Option (Int32 × Mem) :=
  if x2 = (5 : Int32) then
    if oob ((gI M 41) - (1 : Int32)) 20 then none else
    fX12_goesOn_613 n0 (sA M 22 (Int32.toNatClampNeg ((gI M 41) - (1 : Int32))) (2 : Int32))
  else
    fX12_goesOn_613 n0 M
def fX12_goesOn_546 (n0 : Nat) (x1 : Int32) (x2 : Int32) (M : Mem) : Option (Int32 × Mem) :=
  if (gI M 8) ≤ 0 then
    (fX12_joins n0 (1 : Int32) M).bind fun z557 =>
    bnd (sI z557 41 ((gI z557 41) - (1 : Int32))) fun M567 =>
    bnd (sI M567 42 ((gI M567 42) - (1 : Int32))) fun M577 =>
    if x2 = (4 : Int32) then
      if oob x1 20 then none else
      (fX12_add n0 (gA M577 24 (Int32.toNatClampNeg x1)) (0 : Int32) M577).bind fun z593 =>
      fX12_goesOn_596 n0 x2 z593
    else
      fX12_goesOn_596 n0 x2 M577
  else
    some ((0 : Int32), M)
def fX12_goesOn_531 (n0 : Nat) (x1 : Int32) (x2 : Int32) (u1 : Int32) (M : Mem) : Option (Int32 × Mem) :=
  (fX12_isSign n0 u1 M).bind fun z531 =>
  if z531.1 = 0 then
    (fX12_blame n0 (1 : Int32) (gI z531.2 4) z531.2).bind fun z543 =>
    fX12_goesOn_546 n0 x1 x2 z543
  else
    fX12_goesOn_546 n0 x1 x2 z531.2
def fX12_goesOn_422 (n0 : Nat) (x1 : Int32) (x2 : Int32) (M : Mem) : Option (Int32 × Mem) :=
  if (2 : Int32) ≤ x2 then
    if x2 = (3 : Int32) then
      fX12_goesOn_452 n0 x1 x2 M
    else
      if x2 = (6 : Int32) then
        fX12_goesOn_452 n0 x1 x2 M
      else
        if x2 = (5 : Int32) then
          fX12_goesOn_531 n0 x1 x2 (93 : Int32) M
        else
          fX12_goesOn_531 n0 x1 x2 (41 : Int32) M
  else
    if (gI M 8) = 0 then
      (fX12_joins n0 (1 : Int32) M).bind fun z436 =>
      some ((0 : Int32), z436)
    else
      some ((0 : Int32), M)
def fX12_goesOn_400 (n0 : Nat) (x1 : Int32) (x2 : Int32) (x3 : Int32) (M : Mem) : Option (Int32 × Mem) :=
  if x3 = 0 then
    fX12_goesOn_422 n0 x1 x2 M
  else
    if oob x1 20 then none else
    if (gA M 22 (Int32.toNatClampNeg x1)) = 0 then
      (fX12_blame n0 (1 : Int32) (gI M 4) M).bind fun z419 =>
      fX12_goesOn_422 n0 x1 x2 z419
    else
      fX12_goesOn_422 n0 x1 x2 M
def fX12_goesOn_285 (n0 : Nat) (x1 : Int32) (x2 : Int32) (x3 : Int32) (M : Mem) : Option (Int32 × Mem) :=
  if x3 = 0 then
    fX12_goesOn_400 n0 x1 x2 x3 M
  else
    (fX12_isWord n0 (6385252 : Int64) M).bind fun z293 =>
    if z293.1 = 0 then
      (fX12_isWord n0 (28530 : Int64) z293.2).bind fun z303 =>
      if z303.1 = 0 then
        fX12_goesOn_400 n0 x1 x2 x3 z303.2
      else
        fX12_goesOn_309 n0 x1 z303.2
    else
      fX12_goesOn_309 n0 x1 z293.2
def fX12_goesOn_188 (n0 : Nat) (x1 : Int32) (x2 : Int32) (x3 : Int32) (M : Mem) : Option (Int32 × Mem) :=
  if x3 = 0 then
    fX12_goesOn_285 n0 x1 x2 x3 M
  else
    if oob x1 20 then none else
    if (gA M 22 (Int32.toNatClampNeg x1)) = 0 then
      (fX12_isSign n0 (60 : Int32) M).bind fun z204 =>
      if z204.1 = 0 then
        (fX12_isSign n0 (62 : Int32) z204.2).bind fun z213 =>
        if z213.1 = 0 then
          (fX12_isSign n0 (61 : Int32) z213.2).bind fun z222 =>
          if z222.1 = 0 then
            fX12_goesOn_285 n0 x1 x2 x3 z222.2
          else
            fX12_goesOn_228 n0 x1 z222.2
        else
          fX12_goesOn_228 n0 x1 z213.2
      else
        fX12_goesOn_228 n0 x1 z204.2
    else
      fX12_goesOn_285 n0 x1 x2 x3 M
def fX12_goesOn (n0 : Nat) (M : Mem) : Option (Int32 × Mem) :=
  (fX12_lex n0 M).bind fun z1 =>
  if (gI z1 8) ≤ 0 then
    bnd ((gI z1 41) - (1 : Int32)) fun x1_19 =>
    if oob x1_19 20 then none else
    bnd (gA z1 21 (Int32.toNatClampNeg x1_19)) fun x2_26 =>
    (fX12_isTest n0 x2_26 z1).bind fun z28 =>
    if oob x1_19 20 then none else
    if (2 : Int32) ≤ (gA z28.2 22 (Int32.toNatClampNeg x1_19)) then
      fX12_goesOn_188 n0 x1_19 x2_26 z28.1 z28.2
    else
      (fX12_isSign n0 (43 : Int32) z28.2).bind fun z45 =>
      if z45.1 = 0 then
        (fX12_isSign n0 (45 : Int32) z45.2).bind fun z54 =>
        if z54.1 = 0 then
          (fX12_isSign n0 (42 : Int32) z54.2).bind fun z63 =>
          if z63.1 = 0 then
            (fX12_isSign n0 (47 : Int32) z63.2).bind fun z72 =>
            if z72.1 = 0 then
              (fX12_isSign n0 (37 : Int32) z72.2).bind fun z81 =>
              if z81.1 = 0 then
                fX12_goesOn_188 n0 x1_19 x2_26 z28.1 z81.2
              else
                fX12_goesOn_87 n0 z81.2
            else
              fX12_goesOn_87 n0 z72.2
          else
            fX12_goesOn_87 n0 z63.2
        else
          fX12_goesOn_87 n0 z54.2
      else
        fX12_goesOn_87 n0 z45.2
  else
    some ((0 : Int32), z1)
theorem tfX12_goesOn_174 (n0 : Nat) (hO : OKc p (rmL 3) s m args meth c LY D cy ad cX12_goesOn RX12 5 3 (some .boolean)) (u1 : Int32) (M : Mem) : BL p l e (rmL 3) s m args below meth c LY D cy ad 5 (QI LY D cy ad) 174 [(0, .ref (ad 0))] [.int u1, .ref (ad 0)] M (fX12_goesOn_174 n0 u1 M) := by
  unfold fX12_goesOn_174
  refine b_callVV hO mdX12_holdsBack mvX12_holdsBack w1605 (ci := 12) rfl rfl (by decide) kLY_0 (As := [.int _]) (st := []) (ctX12_holdsBack n0 hO.2.2.2.2.2.2.1 _ _) (Nat.le_of_ble_eq_true rfl) rfl rfl (Nat.le_of_ble_eq_true rfl) dX12_goesOn_174 (fun z174 => ?_)
  refine b_aload_n hO dX12_goesOn_177 0 rfl rfl ?_
  refine b_callVV hO mdX12_ahead mvX12_ahead w1473 (ci := 12) rfl rfl (by decide) kLY_0 (As := []) (st := []) (ctX12_ahead n0 hO.2.2.2.2.2.2.1 _) (Nat.le_of_ble_eq_true rfl) rfl rfl (Nat.le_of_ble_eq_true rfl) dX12_goesOn_178 (fun z178 => ?_)
  refine b_aload_n hO dX12_goesOn_181 0 rfl rfl ?_
  refine b_iconst hO dX12_goesOn_182 ic_i_0 ?_
  refine b_putZc hO flX12_150 kLY_0 rfl rfl rfl (id := 45) rfl (Or.inl rfl) dX12_goesOn_183 ?_
  refine b_bnd (fun M183 => ?_)
  refine b_iconst hO dX12_goesOn_186 ic_i_1 ?_
  exact b_zretc hO (Or.inr rfl) dX12_goesOn_187
theorem tfX12_goesOn_112 (n0 : Nat) (hO : OKc p (rmL 3) s m args meth c LY D cy ad cX12_goesOn RX12 5 3 (some .boolean)) (u1 : Int32) (M : Mem) : BL p l e (rmL 3) s m args below meth c LY D cy ad 5 (QI LY D cy ad) 112 [(0, .ref (ad 0))] [.int u1, .ref (ad 0)] M (fX12_goesOn_112 n0 u1 M) := by
  unfold fX12_goesOn_112
  refine b_callVV hO mdX12_joins mvX12_joins w1625 (ci := 12) rfl rfl (by decide) kLY_0 (As := [.int _]) (st := []) (ctX12_joins n0 hO.2.2.2.2.2.2.1 _ _) (Nat.le_of_ble_eq_true rfl) rfl rfl (Nat.le_of_ble_eq_true rfl) dX12_goesOn_112 (fun z112 => ?_)
  refine b_aload_n hO dX12_goesOn_115 0 rfl rfl ?_
  refine b_aload_n hO dX12_goesOn_116 0 rfl rfl ?_
  refine b_bipush hO dX12_goesOn_117 ic_b_43 ?_
  refine b_callVI hO mdX12_isSign mvX12_isSign w1609 (ci := 12) rfl rfl (by decide) kLY_0 (As := [.int _]) (st := [.ref _]) (ctX12_isSign n0 hO.2.2.2.2.2.2.1 _ _) (Nat.le_of_ble_eq_true rfl) rfl rfl (Nat.le_of_ble_eq_true rfl) dX12_goesOn_119 (fun z119 => ?_)
  refine b_if_eq hO dX12_goesOn_122 (tgt := 130) (by decide) ?_ ?_
  · refine b_aload_n hO dX12_goesOn_130 0 rfl rfl ?_
    refine b_bipush hO dX12_goesOn_131 ic_b_45 ?_
    refine b_callVI hO mdX12_isSign mvX12_isSign w1609 (ci := 12) rfl rfl (by decide) kLY_0 (As := [.int _]) (st := [.ref _]) (ctX12_isSign n0 hO.2.2.2.2.2.2.1 _ _) (Nat.le_of_ble_eq_true rfl) rfl rfl (Nat.le_of_ble_eq_true rfl) dX12_goesOn_133 (fun z133 => ?_)
    refine b_if_eq hO dX12_goesOn_136 (tgt := 144) (by decide) ?_ ?_
    · refine b_aload_n hO dX12_goesOn_144 0 rfl rfl ?_
      refine b_bipush hO dX12_goesOn_145 ic_b_42 ?_
      refine b_callVI hO mdX12_isSign mvX12_isSign w1609 (ci := 12) rfl rfl (by decide) kLY_0 (As := [.int _]) (st := [.ref _]) (ctX12_isSign n0 hO.2.2.2.2.2.2.1 _ _) (Nat.le_of_ble_eq_true rfl) rfl rfl (Nat.le_of_ble_eq_true rfl) dX12_goesOn_147 (fun z147 => ?_)
      refine b_if_eq hO dX12_goesOn_150 (tgt := 158) (by decide) ?_ ?_
      · refine b_aload_n hO dX12_goesOn_158 0 rfl rfl ?_
        refine b_bipush hO dX12_goesOn_159 ic_b_47 ?_
        refine b_callVI hO mdX12_isSign mvX12_isSign w1609 (ci := 12) rfl rfl (by decide) kLY_0 (As := [.int _]) (st := [.ref _]) (ctX12_isSign n0 hO.2.2.2.2.2.2.1 _ _) (Nat.le_of_ble_eq_true rfl) rfl rfl (Nat.le_of_ble_eq_true rfl) dX12_goesOn_161 (fun z161 => ?_)
        refine b_if_eq hO dX12_goesOn_164 (tgt := 172) (by decide) ?_ ?_
        · refine b_bipush hO dX12_goesOn_172 ic_b_35 ?_
          exact tfX12_goesOn_174 n0 hO _ _
        · refine b_bipush hO dX12_goesOn_167 ic_b_34 ?_
          refine b_goto hO dX12_goesOn_169 (tgt := 174) (by decide) ?_
          exact tfX12_goesOn_174 n0 hO _ _
      · refine b_bipush hO dX12_goesOn_153 ic_b_33 ?_
        refine b_goto hO dX12_goesOn_155 (tgt := 174) (by decide) ?_
        exact tfX12_goesOn_174 n0 hO _ _
    · refine b_bipush hO dX12_goesOn_139 ic_b_32 ?_
      refine b_goto hO dX12_goesOn_141 (tgt := 174) (by decide) ?_
      exact tfX12_goesOn_174 n0 hO _ _
  · refine b_bipush hO dX12_goesOn_125 ic_b_31 ?_
    refine b_goto hO dX12_goesOn_127 (tgt := 174) (by decide) ?_
    exact tfX12_goesOn_174 n0 hO _ _
theorem tfX12_goesOn_106 (n0 : Nat) (hO : OKc p (rmL 3) s m args meth c LY D cy ad cX12_goesOn RX12 5 3 (some .boolean)) (M : Mem) : BL p l e (rmL 3) s m args below meth c LY D cy ad 5 (QI LY D cy ad) 106 [(0, .ref (ad 0))] [.ref (ad 0)] M (fX12_goesOn_106 n0 M) := by
  unfold fX12_goesOn_106
  refine b_iconst hO dX12_goesOn_106 ic_i_5 ?_
  refine b_goto hO dX12_goesOn_107 (tgt := 112) (by decide) ?_
  exact tfX12_goesOn_112 n0 hO _ _
theorem tfX12_goesOn_87 (n0 : Nat) (hO : OKc p (rmL 3) s m args meth c LY D cy ad cX12_goesOn RX12 5 3 (some .boolean)) (M : Mem) : BL p l e (rmL 3) s m args below meth c LY D cy ad 5 (QI LY D cy ad) 87 [(0, .ref (ad 0))] [] M (fX12_goesOn_87 n0 M) := by
  unfold fX12_goesOn_87
  refine b_aload_n hO dX12_goesOn_87 0 rfl rfl ?_
  refine b_aload_n hO dX12_goesOn_88 0 rfl rfl ?_
  refine b_bipush hO dX12_goesOn_89 ic_b_43 ?_
  refine b_callVI hO mdX12_isSign mvX12_isSign w1609 (ci := 12) rfl rfl (by decide) kLY_0 (As := [.int _]) (st := [.ref _]) (ctX12_isSign n0 hO.2.2.2.2.2.2.1 _ _) (Nat.le_of_ble_eq_true rfl) rfl rfl (Nat.le_of_ble_eq_true rfl) dX12_goesOn_91 (fun z91 => ?_)
  refine b_if_ne hO dX12_goesOn_94 (tgt := 106) (by decide) ?_ ?_
  · exact tfX12_goesOn_106 n0 hO _
  · refine b_aload_n hO dX12_goesOn_97 0 rfl rfl ?_
    refine b_bipush hO dX12_goesOn_98 ic_b_45 ?_
    refine b_callVI hO mdX12_isSign mvX12_isSign w1609 (ci := 12) rfl rfl (by decide) kLY_0 (As := [.int _]) (st := [.ref _]) (ctX12_isSign n0 hO.2.2.2.2.2.2.1 _ _) (Nat.le_of_ble_eq_true rfl) rfl rfl (Nat.le_of_ble_eq_true rfl) dX12_goesOn_100 (fun z100 => ?_)
    refine b_if_eq hO dX12_goesOn_103 (tgt := 110) (by decide) ?_ ?_
    · refine b_bipush hO dX12_goesOn_110 ic_b_6 ?_
      exact tfX12_goesOn_112 n0 hO _ _
    · exact tfX12_goesOn_106 n0 hO _
theorem tfX12_goesOn_264 (n0 : Nat) (hO : OKc p (rmL 3) s m args meth c LY D cy ad cX12_goesOn RX12 5 3 (some .boolean)) (x1 : Int32) (u1 : Int32) (M : Mem) : BL p l e (rmL 3) s m args below meth c LY D cy ad 5 (QI LY D cy ad) 264 [(0, .ref (ad 0)), (1, .int x1)] [.int u1, .ref (ad 0)] M (fX12_goesOn_264 n0 x1 u1 M) := by
  unfold fX12_goesOn_264
  refine b_callVV hO mdX12_holdsBack mvX12_holdsBack w1605 (ci := 12) rfl rfl (by decide) kLY_0 (As := [.int _]) (st := []) (ctX12_holdsBack n0 hO.2.2.2.2.2.2.1 _ _) (Nat.le_of_ble_eq_true rfl) rfl rfl (Nat.le_of_ble_eq_true rfl) dX12_goesOn_264 (fun z264 => ?_)
  refine b_aload_n hO dX12_goesOn_267 0 rfl rfl ?_
  refine b_get hO flX12_125 kLY_0 (v := .ref (ad 22)) rfl dX12_goesOn_268 ?_
  refine b_iload_n hO dX12_goesOn_271 1 rfl rfl ?_
  refine b_iconst hO dX12_goesOn_272 ic_i_1 ?_
  refine b_iast hO kLY_22 (n := 20) rfl dX12_goesOn_273 ?_
  refine b_bnd (fun M273 => ?_)
  refine b_aload_n hO dX12_goesOn_274 0 rfl rfl ?_
  refine b_callVV hO mdX12_ahead mvX12_ahead w1473 (ci := 12) rfl rfl (by decide) kLY_0 (As := []) (st := []) (ctX12_ahead n0 hO.2.2.2.2.2.2.1 _) (Nat.le_of_ble_eq_true rfl) rfl rfl (Nat.le_of_ble_eq_true rfl) dX12_goesOn_275 (fun z275 => ?_)
  refine b_aload_n hO dX12_goesOn_278 0 rfl rfl ?_
  refine b_iconst hO dX12_goesOn_279 ic_i_0 ?_
  refine b_putZc hO flX12_150 kLY_0 rfl rfl rfl (id := 45) rfl (Or.inl rfl) dX12_goesOn_280 ?_
  refine b_bnd (fun M280 => ?_)
  refine b_iconst hO dX12_goesOn_283 ic_i_1 ?_
  exact b_zretc hO (Or.inr rfl) dX12_goesOn_284
theorem tfX12_goesOn_228 (n0 : Nat) (hO : OKc p (rmL 3) s m args meth c LY D cy ad cX12_goesOn RX12 5 3 (some .boolean)) (x1 : Int32) (M : Mem) : BL p l e (rmL 3) s m args below meth c LY D cy ad 5 (QI LY D cy ad) 228 [(0, .ref (ad 0)), (1, .int x1)] [] M (fX12_goesOn_228 n0 x1 M) := by
  unfold fX12_goesOn_228
  refine b_aload_n hO dX12_goesOn_228 0 rfl rfl ?_
  refine b_iconst hO dX12_goesOn_229 ic_i_5 ?_
  refine b_callVV hO mdX12_joins mvX12_joins w1625 (ci := 12) rfl rfl (by decide) kLY_0 (As := [.int _]) (st := []) (ctX12_joins n0 hO.2.2.2.2.2.2.1 _ _) (Nat.le_of_ble_eq_true rfl) rfl rfl (Nat.le_of_ble_eq_true rfl) dX12_goesOn_230 (fun z230 => ?_)
  refine b_aload_n hO dX12_goesOn_233 0 rfl rfl ?_
  refine b_aload_n hO dX12_goesOn_234 0 rfl rfl ?_
  refine b_bipush hO dX12_goesOn_235 ic_b_60 ?_
  refine b_callVI hO mdX12_isSign mvX12_isSign w1609 (ci := 12) rfl rfl (by decide) kLY_0 (As := [.int _]) (st := [.ref _]) (ctX12_isSign n0 hO.2.2.2.2.2.2.1 _ _) (Nat.le_of_ble_eq_true rfl) rfl rfl (Nat.le_of_ble_eq_true rfl) dX12_goesOn_237 (fun z237 => ?_)
  refine b_if_eq hO dX12_goesOn_240 (tgt := 248) (by decide) ?_ ?_
  · refine b_aload_n hO dX12_goesOn_248 0 rfl rfl ?_
    refine b_bipush hO dX12_goesOn_249 ic_b_62 ?_
    refine b_callVI hO mdX12_isSign mvX12_isSign w1609 (ci := 12) rfl rfl (by decide) kLY_0 (As := [.int _]) (st := [.ref _]) (ctX12_isSign n0 hO.2.2.2.2.2.2.1 _ _) (Nat.le_of_ble_eq_true rfl) rfl rfl (Nat.le_of_ble_eq_true rfl) dX12_goesOn_251 (fun z251 => ?_)
    refine b_if_eq hO dX12_goesOn_254 (tgt := 262) (by decide) ?_ ?_
    · refine b_bipush hO dX12_goesOn_262 ic_b_40 ?_
      exact tfX12_goesOn_264 n0 hO _ _ _
    · refine b_bipush hO dX12_goesOn_257 ic_b_39 ?_
      refine b_goto hO dX12_goesOn_259 (tgt := 264) (by decide) ?_
      exact tfX12_goesOn_264 n0 hO _ _ _
  · refine b_bipush hO dX12_goesOn_243 ic_b_38 ?_
    refine b_goto hO dX12_goesOn_245 (tgt := 264) (by decide) ?_
    exact tfX12_goesOn_264 n0 hO _ _ _
theorem tfX12_goesOn_372 (n0 : Nat) (hO : OKc p (rmL 3) s m args meth c LY D cy ad cX12_goesOn RX12 5 3 (some .boolean)) (x1 : Int32) (u1 : Int32) (M : Mem) : BL p l e (rmL 3) s m args below meth c LY D cy ad 5 (QI LY D cy ad) 372 [(0, .ref (ad 0)), (1, .int x1)] [.int u1, .ref (ad 0)] M (fX12_goesOn_372 n0 x1 u1 M) := by
  unfold fX12_goesOn_372
  refine b_callVV hO mdX12_holdsBack mvX12_holdsBack w1605 (ci := 12) rfl rfl (by decide) kLY_0 (As := [.int _]) (st := []) (ctX12_holdsBack n0 hO.2.2.2.2.2.2.1 _ _) (Nat.le_of_ble_eq_true rfl) rfl rfl (Nat.le_of_ble_eq_true rfl) dX12_goesOn_372 (fun z372 => ?_)
  refine b_aload_n hO dX12_goesOn_375 0 rfl rfl ?_
  refine b_get hO flX12_125 kLY_0 (v := .ref (ad 22)) rfl dX12_goesOn_376 ?_
  refine b_iload_n hO dX12_goesOn_379 1 rfl rfl ?_
  refine b_iconst hO dX12_goesOn_380 ic_i_0 ?_
  refine b_iast hO kLY_22 (n := 20) rfl dX12_goesOn_381 ?_
  refine b_bnd (fun M381 => ?_)
  refine b_aload_n hO dX12_goesOn_382 0 rfl rfl ?_
  refine b_get hO flX12_128 kLY_0 (v := .ref (ad 23)) rfl dX12_goesOn_383 ?_
  refine b_iload_n hO dX12_goesOn_386 1 rfl rfl ?_
  refine b_iconst hO dX12_goesOn_387 ic_i_1 ?_
  refine b_zastc hO kLY_23 (n := 20) rfl (Or.inr rfl) dX12_goesOn_388 ?_
  refine b_bnd (fun M388 => ?_)
  refine b_aload_n hO dX12_goesOn_389 0 rfl rfl ?_
  refine b_callVV hO mdX12_ahead mvX12_ahead w1473 (ci := 12) rfl rfl (by decide) kLY_0 (As := []) (st := []) (ctX12_ahead n0 hO.2.2.2.2.2.2.1 _) (Nat.le_of_ble_eq_true rfl) rfl rfl (Nat.le_of_ble_eq_true rfl) dX12_goesOn_390 (fun z390 => ?_)
  refine b_aload_n hO dX12_goesOn_393 0 rfl rfl ?_
  refine b_iconst hO dX12_goesOn_394 ic_i_0 ?_
  refine b_putZc hO flX12_150 kLY_0 rfl rfl rfl (id := 45) rfl (Or.inl rfl) dX12_goesOn_395 ?_
  refine b_bnd (fun M395 => ?_)
  refine b_iconst hO dX12_goesOn_398 ic_i_1 ?_
  exact b_zretc hO (Or.inr rfl) dX12_goesOn_399
theorem tfX12_goesOn_356 (n0 : Nat) (hO : OKc p (rmL 3) s m args meth c LY D cy ad cX12_goesOn RX12 5 3 (some .boolean)) (x1 : Int32) (x4 : Int32) (u1 : Int32) (M : Mem) : BL p l e (rmL 3) s m args below meth c LY D cy ad 5 (QI LY D cy ad) 356 [(0, .ref (ad 0)), (1, .int x1), (4, .int x4)] [.int u1, .ref (ad 0)] M (fX12_goesOn_356 n0 x1 x4 u1 M) := by
  unfold fX12_goesOn_356
  refine b_callVV hO mdX12_joins mvX12_joins w1625 (ci := 12) rfl rfl (by decide) kLY_0 (As := [.int _]) (st := []) (ctX12_joins n0 hO.2.2.2.2.2.2.1 _ _) (Nat.le_of_ble_eq_true rfl) rfl rfl (Nat.le_of_ble_eq_true rfl) dX12_goesOn_356 (fun z356 => ?_)
  refine b_aload_n hO dX12_goesOn_359 0 rfl rfl ?_
  refine b_iload hO dX12_goesOn_360 2 rfl ?_
  refine b_if_eq hO dX12_goesOn_362 (tgt := 370) (by decide) ?_ ?_
  · refine b_bipush hO dX12_goesOn_370 ic_b_42 ?_
    refine b_sub [0, 1] rfl ?_
    exact tfX12_goesOn_372 n0 hO _ _ _
  · refine b_bipush hO dX12_goesOn_365 ic_b_41 ?_
    refine b_goto hO dX12_goesOn_367 (tgt := 372) (by decide) ?_
    refine b_sub [0, 1] rfl ?_
    exact tfX12_goesOn_372 n0 hO _ _ _
theorem tfX12_goesOn_327 (n0 : Nat) (hO : OKc p (rmL 3) s m args meth c LY D cy ad cX12_goesOn RX12 5 3 (some .boolean)) (x1 : Int32) (M : Mem) : BL p l e (rmL 3) s m args below meth c LY D cy ad 5 (QI LY D cy ad) 327 [(0, .ref (ad 0)), (1, .int x1)] [] M (fX12_goesOn_327 n0 x1 M) := by
  unfold fX12_goesOn_327
  refine b_aload_n hO dX12_goesOn_327 0 rfl rfl ?_
  refine b_get hO flX12_36 kLY_0 (v := .int (gI _ 8)) rfl dX12_goesOn_328 ?_
  refine b_if_le hO dX12_goesOn_331 (tgt := 336) (by decide) ?_ ?_
  · refine b_aload_n hO dX12_goesOn_336 0 rfl rfl ?_
    refine b_ldc2 hO w1535 dX12_goesOn_337 ?_
    refine b_callVI hO mdX12_isWord mvX12_isWord w1496 (ci := 12) rfl rfl (by decide) kLY_0 (As := [.long _]) (st := []) (ctX12_isWord n0 hO.2.2.2.2.2.2.1 _ _) (Nat.le_of_ble_eq_true rfl) rfl rfl (Nat.le_of_ble_eq_true rfl) dX12_goesOn_340 (fun z340 => ?_)
    refine b_istore hO dX12_goesOn_343 (by decide) (lv' := [(4, .int _), (0, .ref _), (1, .int _)]) rfl ?_
    refine b_aload_n hO dX12_goesOn_345 1 rfl rfl ?_
    refine b_iload hO dX12_goesOn_346 0 rfl ?_
    refine b_if_eq hO dX12_goesOn_348 (tgt := 355) (by decide) ?_ ?_
    · refine b_iconst hO dX12_goesOn_355 ic_i_1 ?_
      refine b_sub [1, 2, 0] rfl ?_
      exact tfX12_goesOn_356 n0 hO _ _ _ _
    · refine b_iconst hO dX12_goesOn_351 ic_i_2 ?_
      refine b_goto hO dX12_goesOn_352 (tgt := 356) (by decide) ?_
      refine b_sub [1, 2, 0] rfl ?_
      exact tfX12_goesOn_356 n0 hO _ _ _ _
  · refine b_iconst hO dX12_goesOn_334 ic_i_0 ?_
    exact b_zretc hO (Or.inl rfl) dX12_goesOn_335
theorem tfX12_goesOn_309 (n0 : Nat) (hO : OKc p (rmL 3) s m args meth c LY D cy ad cX12_goesOn RX12 5 3 (some .boolean)) (x1 : Int32) (M : Mem) : BL p l e (rmL 3) s m args below meth c LY D cy ad 5 (QI LY D cy ad) 309 [(0, .ref (ad 0)), (1, .int x1)] [] M (fX12_goesOn_309 n0 x1 M) := by
  unfold fX12_goesOn_309
  refine b_aload_n hO dX12_goesOn_309 0 rfl rfl ?_
  refine b_get hO flX12_125 kLY_0 (v := .ref (ad 22)) rfl dX12_goesOn_310 ?_
  refine b_iload_n hO dX12_goesOn_313 1 rfl rfl ?_
  refine b_iald hO kLY_22 (n := 20) rfl dX12_goesOn_314 ?_
  refine b_if_ne hO dX12_goesOn_315 (tgt := 327) (by decide) ?_ ?_
  · exact tfX12_goesOn_327 n0 hO _ _
  · refine b_aload_n hO dX12_goesOn_318 0 rfl rfl ?_
    refine b_iconst hO dX12_goesOn_319 ic_i_1 ?_
    refine b_aload_n hO dX12_goesOn_320 0 rfl rfl ?_
    refine b_get hO flX12_23 kLY_0 (v := .int (gI _ 4)) rfl dX12_goesOn_321 ?_
    refine b_callVV hO mdX12_blame mvX12_blame w1491 (ci := 12) rfl rfl (by decide) kLY_0 (As := [.int _, .int _]) (st := []) (ctX12_blame n0 hO.2.2.2.2.2.2.1 _ _ _) (Nat.le_of_ble_eq_true rfl) rfl rfl (Nat.le_of_ble_eq_true rfl) dX12_goesOn_324 (fun z324 => ?_)
    exact tfX12_goesOn_327 n0 hO _ _
theorem tfX12_goesOn_499 (n0 : Nat) (hO : OKc p (rmL 3) s m args meth c LY D cy ad cX12_goesOn RX12 5 3 (some .boolean)) (x1 : Int32) (u1 : Int32) (u2 : Int32) (M : Mem) : BL p l e (rmL 3) s m args below meth c LY D cy ad 5 (QI LY D cy ad) 499 [(0, .ref (ad 0)), (1, .int x1)] [.int u2, .int u1, .ref (ad 21)] M (fX12_goesOn_499 n0 x1 u1 u2 M) := by
  unfold fX12_goesOn_499
  refine b_iast hO kLY_21 (n := 20) rfl dX12_goesOn_499 ?_
  refine b_bnd (fun M499 => ?_)
  refine b_aload_n hO dX12_goesOn_500 0 rfl rfl ?_
  refine b_get hO flX12_125 kLY_0 (v := .ref (ad 22)) rfl dX12_goesOn_501 ?_
  refine b_iload_n hO dX12_goesOn_504 1 rfl rfl ?_
  refine b_iconst hO dX12_goesOn_505 ic_i_0 ?_
  refine b_iast hO kLY_22 (n := 20) rfl dX12_goesOn_506 ?_
  refine b_bnd (fun M506 => ?_)
  refine b_aload_n hO dX12_goesOn_507 0 rfl rfl ?_
  refine b_callVV hO mdX12_ahead mvX12_ahead w1473 (ci := 12) rfl rfl (by decide) kLY_0 (As := []) (st := []) (ctX12_ahead n0 hO.2.2.2.2.2.2.1 _) (Nat.le_of_ble_eq_true rfl) rfl rfl (Nat.le_of_ble_eq_true rfl) dX12_goesOn_508 (fun z508 => ?_)
  refine b_aload_n hO dX12_goesOn_511 0 rfl rfl ?_
  refine b_iconst hO dX12_goesOn_512 ic_i_0 ?_
  refine b_putZc hO flX12_150 kLY_0 rfl rfl rfl (id := 45) rfl (Or.inl rfl) dX12_goesOn_513 ?_
  refine b_bnd (fun M513 => ?_)
  refine b_iconst hO dX12_goesOn_516 ic_i_1 ?_
  exact b_zretc hO (Or.inr rfl) dX12_goesOn_517
theorem tfX12_goesOn_470 (n0 : Nat) (hO : OKc p (rmL 3) s m args meth c LY D cy ad cX12_goesOn RX12 5 3 (some .boolean)) (x1 : Int32) (x2 : Int32) (M : Mem) : BL p l e (rmL 3) s m args below meth c LY D cy ad 5 (QI LY D cy ad) 470 [(0, .ref (ad 0)), (1, .int x1), (2, .int x2)] [] M (fX12_goesOn_470 n0 x1 x2 M) := by
  unfold fX12_goesOn_470
  refine b_aload_n hO dX12_goesOn_470 0 rfl rfl ?_
  refine b_get hO flX12_36 kLY_0 (v := .int (gI _ 8)) rfl dX12_goesOn_471 ?_
  refine b_if_le hO dX12_goesOn_474 (tgt := 479) (by decide) ?_ ?_
  · refine b_aload_n hO dX12_goesOn_479 0 rfl rfl ?_
    refine b_iconst hO dX12_goesOn_480 ic_i_1 ?_
    refine b_callVV hO mdX12_joins mvX12_joins w1625 (ci := 12) rfl rfl (by decide) kLY_0 (As := [.int _]) (st := []) (ctX12_joins n0 hO.2.2.2.2.2.2.1 _ _) (Nat.le_of_ble_eq_true rfl) rfl rfl (Nat.le_of_ble_eq_true rfl) dX12_goesOn_481 (fun z481 => ?_)
    refine b_aload_n hO dX12_goesOn_484 0 rfl rfl ?_
    refine b_get hO flX12_122 kLY_0 (v := .ref (ad 21)) rfl dX12_goesOn_485 ?_
    refine b_iload_n hO dX12_goesOn_488 1 rfl rfl ?_
    refine b_iload_n hO dX12_goesOn_489 2 rfl rfl ?_
    refine b_iconst hO dX12_goesOn_490 ic_i_3 ?_
    refine b_icmp_ne hO dX12_goesOn_491 (tgt := 498) (by decide) ?_ ?_
    · refine b_iconst hO dX12_goesOn_498 ic_i_3 ?_
      refine b_sub [0, 1] rfl ?_
      exact tfX12_goesOn_499 n0 hO _ _ _ _
    · refine b_iconst hO dX12_goesOn_494 ic_i_4 ?_
      refine b_goto hO dX12_goesOn_495 (tgt := 499) (by decide) ?_
      refine b_sub [0, 1] rfl ?_
      exact tfX12_goesOn_499 n0 hO _ _ _ _
  · refine b_iconst hO dX12_goesOn_477 ic_i_0 ?_
    exact b_zretc hO (Or.inl rfl) dX12_goesOn_478
theorem tfX12_goesOn_452 (n0 : Nat) (hO : OKc p (rmL 3) s m args meth c LY D cy ad cX12_goesOn RX12 5 3 (some .boolean)) (x1 : Int32) (x2 : Int32) (M : Mem) : BL p l e (rmL 3) s m args below meth c LY D cy ad 5 (QI LY D cy ad) 452 [(0, .ref (ad 0)), (1, .int x1), (2, .int x2)] [] M (fX12_goesOn_452 n0 x1 x2 M) := by
  unfold fX12_goesOn_452
  refine b_aload_n hO dX12_goesOn_452 0 rfl rfl ?_
  refine b_bipush hO dX12_goesOn_453 ic_b_44 ?_
  refine b_callVI hO mdX12_isSign mvX12_isSign w1609 (ci := 12) rfl rfl (by decide) kLY_0 (As := [.int _]) (st := []) (ctX12_isSign n0 hO.2.2.2.2.2.2.1 _ _) (Nat.le_of_ble_eq_true rfl) rfl rfl (Nat.le_of_ble_eq_true rfl) dX12_goesOn_455 (fun z455 => ?_)
  refine b_if_ne hO dX12_goesOn_458 (tgt := 470) (by decide) ?_ ?_
  · exact tfX12_goesOn_470 n0 hO _ _ _
  · refine b_aload_n hO dX12_goesOn_461 0 rfl rfl ?_
    refine b_iconst hO dX12_goesOn_462 ic_i_1 ?_
    refine b_aload_n hO dX12_goesOn_463 0 rfl rfl ?_
    refine b_get hO flX12_23 kLY_0 (v := .int (gI _ 4)) rfl dX12_goesOn_464 ?_
    refine b_callVV hO mdX12_blame mvX12_blame w1491 (ci := 12) rfl rfl (by decide) kLY_0 (As := [.int _, .int _]) (st := []) (ctX12_blame n0 hO.2.2.2.2.2.2.1 _ _ _) (Nat.le_of_ble_eq_true rfl) rfl rfl (Nat.le_of_ble_eq_true rfl) dX12_goesOn_467 (fun z467 => ?_)
    exact tfX12_goesOn_470 n0 hO _ _ _
theorem tfX12_goesOn_613 (n0 : Nat) (hO : OKc p (rmL 3) s m args meth c LY D cy ad cX12_goesOn RX12 5 3 (some .boolean)) (M : Mem) : BL p l e (rmL 3) s m args below meth c LY D cy ad 5 (QI LY D cy ad) 613 [(0, .ref (ad 0))] [] M (fX12_goesOn_613 n0 M) := by
  unfold fX12_goesOn_613
  refine b_aload_n hO dX12_goesOn_613 0 rfl rfl ?_
  refine b_callVV hO mdX12_ahead mvX12_ahead w1473 (ci := 12) rfl rfl (by decide) kLY_0 (As := []) (st := []) (ctX12_ahead n0 hO.2.2.2.2.2.2.1 _) (Nat.le_of_ble_eq_true rfl) rfl rfl (Nat.le_of_ble_eq_true rfl) dX12_goesOn_614 (fun z614 => ?_)
  refine b_iconst hO dX12_goesOn_617 ic_i_1 ?_
  exact b_zretc hO (Or.inr rfl) dX12_goesOn_618
theorem tfX12_goesOn_596 (n0 : Nat) (hO : OKc p (rmL 3) s m args meth c LY D cy ad cX12_goesOn RX12 5 3 (some .boolean)) (x2 : Int32) (M : Mem) : BL p l e (rmL 3) s m args below meth c LY D cy ad 5 (QI LY D cy ad) 596 [(0, .ref (ad 0)), (2, .int x2)] [] M (fX12_goesOn_596 n0 x2 M) := by
  unfold fX12_goesOn_596
  refine b_iload_n hO dX12_goesOn_596 1 rfl rfl ?_
  refine b_iconst hO dX12_goesOn_597 ic_i_5 ?_
  refine b_icmp_ne hO dX12_goesOn_598 (tgt := 613) (by decide) ?_ ?_
  · refine b_sub [0] rfl ?_
    exact tfX12_goesOn_613 n0 hO _
  · refine b_aload_n hO dX12_goesOn_601 0 rfl rfl ?_
    refine b_get hO flX12_125 kLY_0 (v := .ref (ad 22)) rfl dX12_goesOn_602 ?_
    refine b_aload_n hO dX12_goesOn_605 0 rfl rfl ?_
    refine b_get hO flX12_138 kLY_0 (v := .int (gI _ 41)) rfl dX12_goesOn_606 ?_
    refine b_iconst hO dX12_goesOn_609 ic_i_1 ?_
    refine b_isub hO dX12_goesOn_610 ?_
    refine b_iconst hO dX12_goesOn_611 ic_i_2 ?_
    refine b_iast hO kLY_22 (n := 20) rfl dX12_goesOn_612 ?_
    refine b_sub [0] rfl ?_
    exact tfX12_goesOn_613 n0 hO _
theorem tfX12_goesOn_546 (n0 : Nat) (hO : OKc p (rmL 3) s m args meth c LY D cy ad cX12_goesOn RX12 5 3 (some .boolean)) (x1 : Int32) (x2 : Int32) (M : Mem) : BL p l e (rmL 3) s m args below meth c LY D cy ad 5 (QI LY D cy ad) 546 [(0, .ref (ad 0)), (1, .int x1), (2, .int x2)] [] M (fX12_goesOn_546 n0 x1 x2 M) := by
  unfold fX12_goesOn_546
  refine b_aload_n hO dX12_goesOn_546 0 rfl rfl ?_
  refine b_get hO flX12_36 kLY_0 (v := .int (gI _ 8)) rfl dX12_goesOn_547 ?_
  refine b_if_le hO dX12_goesOn_550 (tgt := 555) (by decide) ?_ ?_
  · refine b_aload_n hO dX12_goesOn_555 0 rfl rfl ?_
    refine b_iconst hO dX12_goesOn_556 ic_i_1 ?_
    refine b_callVV hO mdX12_joins mvX12_joins w1625 (ci := 12) rfl rfl (by decide) kLY_0 (As := [.int _]) (st := []) (ctX12_joins n0 hO.2.2.2.2.2.2.1 _ _) (Nat.le_of_ble_eq_true rfl) rfl rfl (Nat.le_of_ble_eq_true rfl) dX12_goesOn_557 (fun z557 => ?_)
    refine b_aload_n hO dX12_goesOn_560 0 rfl rfl ?_
    refine b_dup hO dX12_goesOn_561 rfl ?_
    refine b_get hO flX12_138 kLY_0 (v := .int (gI _ 41)) rfl dX12_goesOn_562 ?_
    refine b_iconst hO dX12_goesOn_565 ic_i_1 ?_
    refine b_isub hO dX12_goesOn_566 ?_
    refine b_putI hO flX12_138 kLY_0 rfl rfl rfl (id := 41) rfl dX12_goesOn_567 ?_
    refine b_bnd (fun M567 => ?_)
    refine b_aload_n hO dX12_goesOn_570 0 rfl rfl ?_
    refine b_dup hO dX12_goesOn_571 rfl ?_
    refine b_get hO flX12_141 kLY_0 (v := .int (gI _ 42)) rfl dX12_goesOn_572 ?_
    refine b_iconst hO dX12_goesOn_575 ic_i_1 ?_
    refine b_isub hO dX12_goesOn_576 ?_
    refine b_putI hO flX12_141 kLY_0 rfl rfl rfl (id := 42) rfl dX12_goesOn_577 ?_
    refine b_bnd (fun M577 => ?_)
    refine b_iload_n hO dX12_goesOn_580 2 rfl rfl ?_
    refine b_iconst hO dX12_goesOn_581 ic_i_4 ?_
    refine b_icmp_ne hO dX12_goesOn_582 (tgt := 596) (by decide) ?_ ?_
    · refine b_sub [0, 2] rfl ?_
      exact tfX12_goesOn_596 n0 hO _ _
    · refine b_aload_n hO dX12_goesOn_585 0 rfl rfl ?_
      refine b_aload_n hO dX12_goesOn_586 0 rfl rfl ?_
      refine b_get hO flX12_132 kLY_0 (v := .ref (ad 24)) rfl dX12_goesOn_587 ?_
      refine b_iload_n hO dX12_goesOn_590 1 rfl rfl ?_
      refine b_iald hO kLY_24 (n := 20) rfl dX12_goesOn_591 ?_
      refine b_iconst hO dX12_goesOn_592 ic_i_0 ?_
      refine b_callVV hO mdX12_add mvX12_add w1617 (ci := 12) rfl rfl (by decide) kLY_0 (As := [.int _, .int _]) (st := []) (ctX12_add n0 hO.2.2.2.2.2.2.1 _ _ _) (Nat.le_of_ble_eq_true rfl) rfl rfl (Nat.le_of_ble_eq_true rfl) dX12_goesOn_593 (fun z593 => ?_)
      refine b_sub [0, 2] rfl ?_
      exact tfX12_goesOn_596 n0 hO _ _
  · refine b_iconst hO dX12_goesOn_553 ic_i_0 ?_
    exact b_zretc hO (Or.inl rfl) dX12_goesOn_554
theorem tfX12_goesOn_531 (n0 : Nat) (hO : OKc p (rmL 3) s m args meth c LY D cy ad cX12_goesOn RX12 5 3 (some .boolean)) (x1 : Int32) (x2 : Int32) (u1 : Int32) (M : Mem) : BL p l e (rmL 3) s m args below meth c LY D cy ad 5 (QI LY D cy ad) 531 [(0, .ref (ad 0)), (1, .int x1), (2, .int x2)] [.int u1, .ref (ad 0)] M (fX12_goesOn_531 n0 x1 x2 u1 M) := by
  unfold fX12_goesOn_531
  refine b_callVI hO mdX12_isSign mvX12_isSign w1609 (ci := 12) rfl rfl (by decide) kLY_0 (As := [.int _]) (st := []) (ctX12_isSign n0 hO.2.2.2.2.2.2.1 _ _) (Nat.le_of_ble_eq_true rfl) rfl rfl (Nat.le_of_ble_eq_true rfl) dX12_goesOn_531 (fun z531 => ?_)
  refine b_if_ne hO dX12_goesOn_534 (tgt := 546) (by decide) ?_ ?_
  · exact tfX12_goesOn_546 n0 hO _ _ _
  · refine b_aload_n hO dX12_goesOn_537 0 rfl rfl ?_
    refine b_iconst hO dX12_goesOn_538 ic_i_1 ?_
    refine b_aload_n hO dX12_goesOn_539 0 rfl rfl ?_
    refine b_get hO flX12_23 kLY_0 (v := .int (gI _ 4)) rfl dX12_goesOn_540 ?_
    refine b_callVV hO mdX12_blame mvX12_blame w1491 (ci := 12) rfl rfl (by decide) kLY_0 (As := [.int _, .int _]) (st := []) (ctX12_blame n0 hO.2.2.2.2.2.2.1 _ _ _) (Nat.le_of_ble_eq_true rfl) rfl rfl (Nat.le_of_ble_eq_true rfl) dX12_goesOn_543 (fun z543 => ?_)
    exact tfX12_goesOn_546 n0 hO _ _ _
theorem tfX12_goesOn_422 (n0 : Nat) (hO : OKc p (rmL 3) s m args meth c LY D cy ad cX12_goesOn RX12 5 3 (some .boolean)) (x1 : Int32) (x2 : Int32) (M : Mem) : BL p l e (rmL 3) s m args below meth c LY D cy ad 5 (QI LY D cy ad) 422 [(0, .ref (ad 0)), (1, .int x1), (2, .int x2)] [] M (fX12_goesOn_422 n0 x1 x2 M) := by
  unfold fX12_goesOn_422
  refine b_iload_n hO dX12_goesOn_422 2 rfl rfl ?_
  refine b_iconst hO dX12_goesOn_423 ic_i_2 ?_
  refine b_icmp_ge hO dX12_goesOn_424 (tgt := 441) (by decide) ?_ ?_
  · refine b_iload_n hO dX12_goesOn_441 2 rfl rfl ?_
    refine b_iconst hO dX12_goesOn_442 ic_i_3 ?_
    refine b_icmp_eq hO dX12_goesOn_443 (tgt := 452) (by decide) ?_ ?_
    · exact tfX12_goesOn_452 n0 hO _ _ _
    · refine b_iload_n hO dX12_goesOn_446 2 rfl rfl ?_
      refine b_bipush hO dX12_goesOn_447 ic_b_6 ?_
      refine b_icmp_ne hO dX12_goesOn_449 (tgt := 518) (by decide) ?_ ?_
      · refine b_aload_n hO dX12_goesOn_518 0 rfl rfl ?_
        refine b_iload_n hO dX12_goesOn_519 2 rfl rfl ?_
        refine b_iconst hO dX12_goesOn_520 ic_i_5 ?_
        refine b_icmp_ne hO dX12_goesOn_521 (tgt := 529) (by decide) ?_ ?_
        · refine b_bipush hO dX12_goesOn_529 ic_b_41 ?_
          exact tfX12_goesOn_531 n0 hO _ _ _ _
        · refine b_bipush hO dX12_goesOn_524 ic_b_93 ?_
          refine b_goto hO dX12_goesOn_526 (tgt := 531) (by decide) ?_
          exact tfX12_goesOn_531 n0 hO _ _ _ _
      · exact tfX12_goesOn_452 n0 hO _ _ _
  · refine b_aload_n hO dX12_goesOn_427 0 rfl rfl ?_
    refine b_get hO flX12_36 kLY_0 (v := .int (gI _ 8)) rfl dX12_goesOn_428 ?_
    refine b_if_ne hO dX12_goesOn_431 (tgt := 439) (by decide) ?_ ?_
    · refine b_iconst hO dX12_goesOn_439 ic_i_0 ?_
      exact b_zretc hO (Or.inl rfl) dX12_goesOn_440
    · refine b_aload_n hO dX12_goesOn_434 0 rfl rfl ?_
      refine b_iconst hO dX12_goesOn_435 ic_i_1 ?_
      refine b_callVV hO mdX12_joins mvX12_joins w1625 (ci := 12) rfl rfl (by decide) kLY_0 (As := [.int _]) (st := []) (ctX12_joins n0 hO.2.2.2.2.2.2.1 _ _) (Nat.le_of_ble_eq_true rfl) rfl rfl (Nat.le_of_ble_eq_true rfl) dX12_goesOn_436 (fun z436 => ?_)
      refine b_iconst hO dX12_goesOn_439 ic_i_0 ?_
      exact b_zretc hO (Or.inl rfl) dX12_goesOn_440
theorem tfX12_goesOn_400 (n0 : Nat) (hO : OKc p (rmL 3) s m args meth c LY D cy ad cX12_goesOn RX12 5 3 (some .boolean)) (x1 : Int32) (x2 : Int32) (x3 : Int32) (M : Mem) : BL p l e (rmL 3) s m args below meth c LY D cy ad 5 (QI LY D cy ad) 400 [(0, .ref (ad 0)), (1, .int x1), (2, .int x2), (3, .int x3)] [] M (fX12_goesOn_400 n0 x1 x2 x3 M) := by
  unfold fX12_goesOn_400
  refine b_iload_n hO dX12_goesOn_400 3 rfl rfl ?_
  refine b_if_eq hO dX12_goesOn_401 (tgt := 422) (by decide) ?_ ?_
  · refine b_sub [0, 1, 2] rfl ?_
    exact tfX12_goesOn_422 n0 hO _ _ _
  · refine b_aload_n hO dX12_goesOn_404 0 rfl rfl ?_
    refine b_get hO flX12_125 kLY_0 (v := .ref (ad 22)) rfl dX12_goesOn_405 ?_
    refine b_iload_n hO dX12_goesOn_408 1 rfl rfl ?_
    refine b_iald hO kLY_22 (n := 20) rfl dX12_goesOn_409 ?_
    refine b_if_ne hO dX12_goesOn_410 (tgt := 422) (by decide) ?_ ?_
    · refine b_sub [0, 1, 2] rfl ?_
      exact tfX12_goesOn_422 n0 hO _ _ _
    · refine b_aload_n hO dX12_goesOn_413 0 rfl rfl ?_
      refine b_iconst hO dX12_goesOn_414 ic_i_1 ?_
      refine b_aload_n hO dX12_goesOn_415 0 rfl rfl ?_
      refine b_get hO flX12_23 kLY_0 (v := .int (gI _ 4)) rfl dX12_goesOn_416 ?_
      refine b_callVV hO mdX12_blame mvX12_blame w1491 (ci := 12) rfl rfl (by decide) kLY_0 (As := [.int _, .int _]) (st := []) (ctX12_blame n0 hO.2.2.2.2.2.2.1 _ _ _) (Nat.le_of_ble_eq_true rfl) rfl rfl (Nat.le_of_ble_eq_true rfl) dX12_goesOn_419 (fun z419 => ?_)
      refine b_sub [0, 1, 2] rfl ?_
      exact tfX12_goesOn_422 n0 hO _ _ _
theorem tfX12_goesOn_285 (n0 : Nat) (hO : OKc p (rmL 3) s m args meth c LY D cy ad cX12_goesOn RX12 5 3 (some .boolean)) (x1 : Int32) (x2 : Int32) (x3 : Int32) (M : Mem) : BL p l e (rmL 3) s m args below meth c LY D cy ad 5 (QI LY D cy ad) 285 [(0, .ref (ad 0)), (1, .int x1), (2, .int x2), (3, .int x3)] [] M (fX12_goesOn_285 n0 x1 x2 x3 M) := by
  unfold fX12_goesOn_285
  refine b_iload_n hO dX12_goesOn_285 3 rfl rfl ?_
  refine b_if_eq hO dX12_goesOn_286 (tgt := 400) (by decide) ?_ ?_
  · exact tfX12_goesOn_400 n0 hO _ _ _ _
  · refine b_aload_n hO dX12_goesOn_289 0 rfl rfl ?_
    refine b_ldc2 hO w1535 dX12_goesOn_290 ?_
    refine b_callVI hO mdX12_isWord mvX12_isWord w1496 (ci := 12) rfl rfl (by decide) kLY_0 (As := [.long _]) (st := []) (ctX12_isWord n0 hO.2.2.2.2.2.2.1 _ _) (Nat.le_of_ble_eq_true rfl) rfl rfl (Nat.le_of_ble_eq_true rfl) dX12_goesOn_293 (fun z293 => ?_)
    refine b_if_ne hO dX12_goesOn_296 (tgt := 309) (by decide) ?_ ?_
    · refine b_sub [0, 1] rfl ?_
      exact tfX12_goesOn_309 n0 hO _ _
    · refine b_aload_n hO dX12_goesOn_299 0 rfl rfl ?_
      refine b_ldc2 hO w1534 dX12_goesOn_300 ?_
      refine b_callVI hO mdX12_isWord mvX12_isWord w1496 (ci := 12) rfl rfl (by decide) kLY_0 (As := [.long _]) (st := []) (ctX12_isWord n0 hO.2.2.2.2.2.2.1 _ _) (Nat.le_of_ble_eq_true rfl) rfl rfl (Nat.le_of_ble_eq_true rfl) dX12_goesOn_303 (fun z303 => ?_)
      refine b_if_eq hO dX12_goesOn_306 (tgt := 400) (by decide) ?_ ?_
      · exact tfX12_goesOn_400 n0 hO _ _ _ _
      · refine b_sub [0, 1] rfl ?_
        exact tfX12_goesOn_309 n0 hO _ _
theorem tfX12_goesOn_188 (n0 : Nat) (hO : OKc p (rmL 3) s m args meth c LY D cy ad cX12_goesOn RX12 5 3 (some .boolean)) (x1 : Int32) (x2 : Int32) (x3 : Int32) (M : Mem) : BL p l e (rmL 3) s m args below meth c LY D cy ad 5 (QI LY D cy ad) 188 [(0, .ref (ad 0)), (1, .int x1), (2, .int x2), (3, .int x3)] [] M (fX12_goesOn_188 n0 x1 x2 x3 M) := by
  unfold fX12_goesOn_188
  refine b_iload_n hO dX12_goesOn_188 3 rfl rfl ?_
  refine b_if_eq hO dX12_goesOn_189 (tgt := 285) (by decide) ?_ ?_
  · exact tfX12_goesOn_285 n0 hO _ _ _ _
  · refine b_aload_n hO dX12_goesOn_192 0 rfl rfl ?_
    refine b_get hO flX12_125 kLY_0 (v := .ref (ad 22)) rfl dX12_goesOn_193 ?_
    refine b_iload_n hO dX12_goesOn_196 1 rfl rfl ?_
    refine b_iald hO kLY_22 (n := 20) rfl dX12_goesOn_197 ?_
    refine b_if_ne hO dX12_goesOn_198 (tgt := 285) (by decide) ?_ ?_
    · exact tfX12_goesOn_285 n0 hO _ _ _ _
    · refine b_aload_n hO dX12_goesOn_201 0 rfl rfl ?_
      refine b_bipush hO dX12_goesOn_202 ic_b_60 ?_
      refine b_callVI hO mdX12_isSign mvX12_isSign w1609 (ci := 12) rfl rfl (by decide) kLY_0 (As := [.int _]) (st := []) (ctX12_isSign n0 hO.2.2.2.2.2.2.1 _ _) (Nat.le_of_ble_eq_true rfl) rfl rfl (Nat.le_of_ble_eq_true rfl) dX12_goesOn_204 (fun z204 => ?_)
      refine b_if_ne hO dX12_goesOn_207 (tgt := 228) (by decide) ?_ ?_
      · refine b_sub [0, 1] rfl ?_
        exact tfX12_goesOn_228 n0 hO _ _
      · refine b_aload_n hO dX12_goesOn_210 0 rfl rfl ?_
        refine b_bipush hO dX12_goesOn_211 ic_b_62 ?_
        refine b_callVI hO mdX12_isSign mvX12_isSign w1609 (ci := 12) rfl rfl (by decide) kLY_0 (As := [.int _]) (st := []) (ctX12_isSign n0 hO.2.2.2.2.2.2.1 _ _) (Nat.le_of_ble_eq_true rfl) rfl rfl (Nat.le_of_ble_eq_true rfl) dX12_goesOn_213 (fun z213 => ?_)
        refine b_if_ne hO dX12_goesOn_216 (tgt := 228) (by decide) ?_ ?_
        · refine b_sub [0, 1] rfl ?_
          exact tfX12_goesOn_228 n0 hO _ _
        · refine b_aload_n hO dX12_goesOn_219 0 rfl rfl ?_
          refine b_bipush hO dX12_goesOn_220 ic_b_61 ?_
          refine b_callVI hO mdX12_isSign mvX12_isSign w1609 (ci := 12) rfl rfl (by decide) kLY_0 (As := [.int _]) (st := []) (ctX12_isSign n0 hO.2.2.2.2.2.2.1 _ _) (Nat.le_of_ble_eq_true rfl) rfl rfl (Nat.le_of_ble_eq_true rfl) dX12_goesOn_222 (fun z222 => ?_)
          refine b_if_eq hO dX12_goesOn_225 (tgt := 285) (by decide) ?_ ?_
          · exact tfX12_goesOn_285 n0 hO _ _ _ _
          · refine b_sub [0, 1] rfl ?_
            exact tfX12_goesOn_228 n0 hO _ _
theorem tfX12_goesOn (n0 : Nat) (hO : OKc p (rmL 3) s m args meth c LY D cy ad cX12_goesOn RX12 5 3 (some .boolean)) (M : Mem) : BL p l e (rmL 3) s m args below meth c LY D cy ad 5 (QI LY D cy ad) 0 [(0, .ref (ad 0))] [] M (fX12_goesOn n0 M) := by
  unfold fX12_goesOn
  refine b_aload_n hO dX12_goesOn_0 0 rfl rfl ?_
  refine b_callVV hO mdX12_lex mvX12_lex w1487 (ci := 12) rfl rfl (by decide) kLY_0 (As := []) (st := []) (ctX12_lex n0 hO.2.2.2.2.2.2.1 _) (Nat.le_of_ble_eq_true rfl) rfl rfl (Nat.le_of_ble_eq_true rfl) dX12_goesOn_1 (fun z1 => ?_)
  refine b_aload_n hO dX12_goesOn_4 0 rfl rfl ?_
  refine b_get hO flX12_36 kLY_0 (v := .int (gI _ 8)) rfl dX12_goesOn_5 ?_
  refine b_if_le hO dX12_goesOn_8 (tgt := 13) (by decide) ?_ ?_
  · refine b_aload_n hO dX12_goesOn_13 0 rfl rfl ?_
    refine b_get hO flX12_138 kLY_0 (v := .int (gI _ 41)) rfl dX12_goesOn_14 ?_
    refine b_iconst hO dX12_goesOn_17 ic_i_1 ?_
    refine b_isub hO dX12_goesOn_18 ?_
    refine b_topI (fun x1_19 => ?_)
    refine b_istore_n hO dX12_goesOn_19 rfl (by decide) (lv' := [(1, .int _), (0, .ref _)]) rfl ?_
    refine b_aload_n hO dX12_goesOn_20 1 rfl rfl ?_
    refine b_get hO flX12_122 kLY_0 (v := .ref (ad 21)) rfl dX12_goesOn_21 ?_
    refine b_iload_n hO dX12_goesOn_24 0 rfl rfl ?_
    refine b_iald hO kLY_21 (n := 20) rfl dX12_goesOn_25 ?_
    refine b_topI (fun x2_26 => ?_)
    refine b_istore_n hO dX12_goesOn_26 rfl (by decide) (lv' := [(2, .int _), (1, .int _), (0, .ref _)]) rfl ?_
    refine b_iload_n hO dX12_goesOn_27 0 rfl rfl ?_
    refine b_callSI hO mdX12_isTest w1603 w1602 (As := [.int _]) (st := []) (ctX12_isTest n0 hO.2.2.2.2.2.2.1 _ _) (Nat.le_of_ble_eq_true rfl) rfl rfl (Nat.le_of_ble_eq_true rfl) dX12_goesOn_28 (fun z28 => ?_)
    refine b_istore_n hO dX12_goesOn_31 rfl (by decide) (lv' := [(3, .int _), (2, .int _), (1, .int _), (0, .ref _)]) rfl ?_
    refine b_aload_n hO dX12_goesOn_32 3 rfl rfl ?_
    refine b_get hO flX12_125 kLY_0 (v := .ref (ad 22)) rfl dX12_goesOn_33 ?_
    refine b_iload_n hO dX12_goesOn_36 2 rfl rfl ?_
    refine b_iald hO kLY_22 (n := 20) rfl dX12_goesOn_37 ?_
    refine b_iconst hO dX12_goesOn_38 ic_i_2 ?_
    refine b_icmp_ge hO dX12_goesOn_39 (tgt := 188) (by decide) ?_ ?_
    · refine b_sub [3, 2, 1, 0] rfl ?_
      exact tfX12_goesOn_188 n0 hO _ _ _ _
    · refine b_aload_n hO dX12_goesOn_42 3 rfl rfl ?_
      refine b_bipush hO dX12_goesOn_43 ic_b_43 ?_
      refine b_callVI hO mdX12_isSign mvX12_isSign w1609 (ci := 12) rfl rfl (by decide) kLY_0 (As := [.int _]) (st := []) (ctX12_isSign n0 hO.2.2.2.2.2.2.1 _ _) (Nat.le_of_ble_eq_true rfl) rfl rfl (Nat.le_of_ble_eq_true rfl) dX12_goesOn_45 (fun z45 => ?_)
      refine b_if_ne hO dX12_goesOn_48 (tgt := 87) (by decide) ?_ ?_
      · refine b_sub [3] rfl ?_
        exact tfX12_goesOn_87 n0 hO _
      · refine b_aload_n hO dX12_goesOn_51 3 rfl rfl ?_
        refine b_bipush hO dX12_goesOn_52 ic_b_45 ?_
        refine b_callVI hO mdX12_isSign mvX12_isSign w1609 (ci := 12) rfl rfl (by decide) kLY_0 (As := [.int _]) (st := []) (ctX12_isSign n0 hO.2.2.2.2.2.2.1 _ _) (Nat.le_of_ble_eq_true rfl) rfl rfl (Nat.le_of_ble_eq_true rfl) dX12_goesOn_54 (fun z54 => ?_)
        refine b_if_ne hO dX12_goesOn_57 (tgt := 87) (by decide) ?_ ?_
        · refine b_sub [3] rfl ?_
          exact tfX12_goesOn_87 n0 hO _
        · refine b_aload_n hO dX12_goesOn_60 3 rfl rfl ?_
          refine b_bipush hO dX12_goesOn_61 ic_b_42 ?_
          refine b_callVI hO mdX12_isSign mvX12_isSign w1609 (ci := 12) rfl rfl (by decide) kLY_0 (As := [.int _]) (st := []) (ctX12_isSign n0 hO.2.2.2.2.2.2.1 _ _) (Nat.le_of_ble_eq_true rfl) rfl rfl (Nat.le_of_ble_eq_true rfl) dX12_goesOn_63 (fun z63 => ?_)
          refine b_if_ne hO dX12_goesOn_66 (tgt := 87) (by decide) ?_ ?_
          · refine b_sub [3] rfl ?_
            exact tfX12_goesOn_87 n0 hO _
          · refine b_aload_n hO dX12_goesOn_69 3 rfl rfl ?_
            refine b_bipush hO dX12_goesOn_70 ic_b_47 ?_
            refine b_callVI hO mdX12_isSign mvX12_isSign w1609 (ci := 12) rfl rfl (by decide) kLY_0 (As := [.int _]) (st := []) (ctX12_isSign n0 hO.2.2.2.2.2.2.1 _ _) (Nat.le_of_ble_eq_true rfl) rfl rfl (Nat.le_of_ble_eq_true rfl) dX12_goesOn_72 (fun z72 => ?_)
            refine b_if_ne hO dX12_goesOn_75 (tgt := 87) (by decide) ?_ ?_
            · refine b_sub [3] rfl ?_
              exact tfX12_goesOn_87 n0 hO _
            · refine b_aload_n hO dX12_goesOn_78 3 rfl rfl ?_
              refine b_bipush hO dX12_goesOn_79 ic_b_37 ?_
              refine b_callVI hO mdX12_isSign mvX12_isSign w1609 (ci := 12) rfl rfl (by decide) kLY_0 (As := [.int _]) (st := []) (ctX12_isSign n0 hO.2.2.2.2.2.2.1 _ _) (Nat.le_of_ble_eq_true rfl) rfl rfl (Nat.le_of_ble_eq_true rfl) dX12_goesOn_81 (fun z81 => ?_)
              refine b_if_eq hO dX12_goesOn_84 (tgt := 188) (by decide) ?_ ?_
              · refine b_sub [3, 2, 1, 0] rfl ?_
                exact tfX12_goesOn_188 n0 hO _ _ _ _
              · refine b_sub [3] rfl ?_
                exact tfX12_goesOn_87 n0 hO _
  · refine b_iconst hO dX12_goesOn_11 ic_i_0 ?_
    exact b_zretc hO (Or.inl rfl) dX12_goesOn_12
theorem ctX12_goesOn (n0 : Nat) (hI : Inj LY ad) (M : Mem) : CT l LY D cy ad yX12_goesOn cX12_goesOn 5 (some .boolean) 3 (QI LY D cy ad) [.ref (ad 0)] M (fX12_goesOn n0 M) :=
  CT.mk LYok hI (by decide) (Nat.le_of_ble_eq_true rfl) (fun hO => tfX12_goesOn n0 hO M)
/-! X12_reads -/
def fX12_reads_86 (n0 : Nat) (k43 : Int32 → Mem → Option (Mem)) (u0 : Int32) (M : Mem) : Option (Mem) :=
  k43 u0 M
def fX12_reads_85 (n0 : Nat) (k43 : Int32 → Mem → Option (Mem)) (M : Mem) : Option (Mem) :=
  fX12_reads_86 n0 k43 (0 : Int32) M
def fX12_reads_70 (n0 : Nat) (k43 : Int32 → Mem → Option (Mem)) (x2 : Int32) (M : Mem) : Option (Mem) :=
  if x2 = 0 then
    fX12_reads_85 n0 k43 M
  else
    if (gI M 8) = 0 then
      fX12_reads_86 n0 k43 (1 : Int32) M
    else
      fX12_reads_85 n0 k43 M
def bX12_reads_43 (n0 : Nat) (k43 : Int32 → Mem → Option (Mem)) (x2 : Int32) (M : Mem) : Option (Mem) :=
  if x2 = 0 then
    some M
  else
    if (gI M 45) = 0 then
      (fX12_operand n0 M).bind fun z56 =>
      if z56.1 = 0 ∨ z56.1 = 1 then
      fX12_reads_70 n0 k43 x2 (sI z56.2 45 z56.1)
      else none
    else
      (fX12_goesOn n0 M).bind fun z66 =>
      fX12_reads_70 n0 k43 z66.1 z66.2
def fX12_reads_43 (n0 : Nat) : Int32 → Mem → Option (Mem) := loopN (bX12_reads_43 n0) (fun _ _ => none) n0
def fX12_reads_38 (n0 : Nat) (u1 : Int32) (M : Mem) : Option (Mem) :=
  (fX12_pushes n0 u1 M).bind fun z38 =>
  fX12_reads_43 n0 (1 : Int32) z38
def fX12_reads (n0 : Nat) (x1 : Int32) (M : Mem) : Option (Mem) :=
  if (gI M 8) ≤ 0 then
    bnd (sI M 41 (0 : Int32)) fun M10 =>
    bnd (sI M10 42 (0 : Int32)) fun M15 =>
    bnd (sI M15 44 (0 : Int32)) fun M20 =>
    bnd (sI M20 45 (0 : Int32)) fun M25 =>
    if x1 = 0 then
      fX12_reads_38 n0 (0 : Int32) M25
    else
      fX12_reads_38 n0 (1 : Int32) M25
  else
    some M
theorem tfX12_reads_86 (n0 : Nat) (hO : OKc p (rmL 5) s m args meth c LY D cy ad cX12_reads RX12 3 5 none) (k43 : Int32 → Mem → Option (Mem)) (hk43 : ∀ (x2 : Int32) (M : Mem), BL p l e (rmL 5) s m args below meth c LY D cy ad 3 (QV LY D cy ad) 43 [(0, .ref (ad 0)), (2, .int x2)] [] M (k43 x2 M)) (u0 : Int32) (M : Mem) : BL p l e (rmL 5) s m args below meth c LY D cy ad 3 (QV LY D cy ad) 86 [(0, .ref (ad 0))] [.int u0] M (fX12_reads_86 n0 k43 u0 M) := by
  unfold fX12_reads_86
  refine b_istore_n hO dX12_reads_86 rfl (by decide) (lv' := [(2, .int _), (0, .ref _)]) rfl ?_
  refine b_goto hO dX12_reads_87 (tgt := 43) (by decide) ?_
  refine b_sub [1, 0] rfl ?_
  exact hk43 _ _
theorem tfX12_reads_85 (n0 : Nat) (hO : OKc p (rmL 5) s m args meth c LY D cy ad cX12_reads RX12 3 5 none) (k43 : Int32 → Mem → Option (Mem)) (hk43 : ∀ (x2 : Int32) (M : Mem), BL p l e (rmL 5) s m args below meth c LY D cy ad 3 (QV LY D cy ad) 43 [(0, .ref (ad 0)), (2, .int x2)] [] M (k43 x2 M)) (M : Mem) : BL p l e (rmL 5) s m args below meth c LY D cy ad 3 (QV LY D cy ad) 85 [(0, .ref (ad 0))] [] M (fX12_reads_85 n0 k43 M) := by
  unfold fX12_reads_85
  refine b_iconst hO dX12_reads_85 ic_i_0 ?_
  exact tfX12_reads_86 n0 hO k43 hk43 _ _
theorem tfX12_reads_70 (n0 : Nat) (hO : OKc p (rmL 5) s m args meth c LY D cy ad cX12_reads RX12 3 5 none) (k43 : Int32 → Mem → Option (Mem)) (hk43 : ∀ (x2 : Int32) (M : Mem), BL p l e (rmL 5) s m args below meth c LY D cy ad 3 (QV LY D cy ad) 43 [(0, .ref (ad 0)), (2, .int x2)] [] M (k43 x2 M)) (x2 : Int32) (M : Mem) : BL p l e (rmL 5) s m args below meth c LY D cy ad 3 (QV LY D cy ad) 70 [(0, .ref (ad 0)), (2, .int x2)] [] M (fX12_reads_70 n0 k43 x2 M) := by
  unfold fX12_reads_70
  refine b_iload_n hO dX12_reads_70 1 rfl rfl ?_
  refine b_if_eq hO dX12_reads_71 (tgt := 85) (by decide) ?_ ?_
  · refine b_sub [0] rfl ?_
    exact tfX12_reads_85 n0 hO k43 hk43 _
  · refine b_aload_n hO dX12_reads_74 0 rfl rfl ?_
    refine b_get hO flX12_36 kLY_0 (v := .int (gI _ 8)) rfl dX12_reads_75 ?_
    refine b_if_ne hO dX12_reads_78 (tgt := 85) (by decide) ?_ ?_
    · refine b_sub [0] rfl ?_
      exact tfX12_reads_85 n0 hO k43 hk43 _
    · refine b_iconst hO dX12_reads_81 ic_i_1 ?_
      refine b_goto hO dX12_reads_82 (tgt := 86) (by decide) ?_
      refine b_sub [0] rfl ?_
      exact tfX12_reads_86 n0 hO k43 hk43 _ _
theorem tbX12_reads_43 (n0 : Nat) (hO : OKc p (rmL 5) s m args meth c LY D cy ad cX12_reads RX12 3 5 none) (k43 : Int32 → Mem → Option (Mem)) (hk43 : ∀ (x2 : Int32) (M : Mem), BL p l e (rmL 5) s m args below meth c LY D cy ad 3 (QV LY D cy ad) 43 [(0, .ref (ad 0)), (2, .int x2)] [] M (k43 x2 M)) (x2 : Int32) (M : Mem) : BL p l e (rmL 5) s m args below meth c LY D cy ad 3 (QV LY D cy ad) 43 [(0, .ref (ad 0)), (2, .int x2)] [] M (bX12_reads_43 n0 k43 x2 M) := by
  unfold bX12_reads_43
  refine b_iload_n hO dX12_reads_43 1 rfl rfl ?_
  refine b_if_eq hO dX12_reads_44 (tgt := 90) (by decide) ?_ ?_
  · exact b_vret hO dX12_reads_90
  · refine b_aload_n hO dX12_reads_47 0 rfl rfl ?_
    refine b_get hO flX12_150 kLY_0 (v := .int (gI _ 45)) rfl dX12_reads_48 ?_
    refine b_if_ne hO dX12_reads_51 (tgt := 65) (by decide) ?_ ?_
    · refine b_aload_n hO dX12_reads_65 0 rfl rfl ?_
      refine b_callVI hO mdX12_goesOn mvX12_goesOn w1621 (ci := 12) rfl rfl (by decide) kLY_0 (As := []) (st := []) (ctX12_goesOn n0 hO.2.2.2.2.2.2.1 _) (Nat.le_of_ble_eq_true rfl) rfl rfl (Nat.le_of_ble_eq_true rfl) dX12_reads_66 (fun z66 => ?_)
      refine b_istore_n hO dX12_reads_69 rfl (by decide) (lv' := [(2, .int _), (0, .ref _)]) rfl ?_
      refine b_sub [1, 0] rfl ?_
      exact tfX12_reads_70 n0 hO k43 hk43 _ _
    · refine b_aload_n hO dX12_reads_54 0 rfl rfl ?_
      refine b_aload_n hO dX12_reads_55 0 rfl rfl ?_
      refine b_callVI hO mdX12_operand mvX12_operand w1598 (ci := 12) rfl rfl (by decide) kLY_0 (As := []) (st := [.ref _]) (ctX12_operand n0 hO.2.2.2.2.2.2.1 _) (Nat.le_of_ble_eq_true rfl) rfl rfl (Nat.le_of_ble_eq_true rfl) dX12_reads_56 (fun z56 => ?_)
      refine b_putZ hO flX12_150 kLY_0 rfl rfl rfl (id := 45) rfl dX12_reads_59 ?_
      refine b_goto hO dX12_reads_62 (tgt := 70) (by decide) ?_
      exact tfX12_reads_70 n0 hO k43 hk43 _ _
theorem lX12_reads_43 (n0 : Nat) (hO : OKc p (rmL 5) s m args meth c LY D cy ad cX12_reads RX12 3 5 none) : ∀ (w : Nat) (x2 : Int32) (M : Mem), BL p l e (rmL 5) s m args below meth c LY D cy ad 3 (QV LY D cy ad) 43 [(0, .ref (ad 0)), (2, .int x2)] [] M (loopN (bX12_reads_43 n0) (fun _ _ => none) w x2 M) := by
  intro w
  induction w with
  | zero =>
    intros
    exact b_none
  | succ w ih =>
    intro x2 M
    exact tbX12_reads_43 n0 hO _ ih x2 M
theorem tfX12_reads_43 (n0 : Nat) (hO : OKc p (rmL 5) s m args meth c LY D cy ad cX12_reads RX12 3 5 none) (x2 : Int32) (M : Mem) : BL p l e (rmL 5) s m args below meth c LY D cy ad 3 (QV LY D cy ad) 43 [(0, .ref (ad 0)), (2, .int x2)] [] M (fX12_reads_43 n0 x2 M) := lX12_reads_43 n0 hO n0 x2 M
theorem tfX12_reads_38 (n0 : Nat) (hO : OKc p (rmL 5) s m args meth c LY D cy ad cX12_reads RX12 3 5 none) (u1 : Int32) (M : Mem) : BL p l e (rmL 5) s m args below meth c LY D cy ad 3 (QV LY D cy ad) 38 [(0, .ref (ad 0))] [.int u1, .ref (ad 0)] M (fX12_reads_38 n0 u1 M) := by
  unfold fX12_reads_38
  refine b_callVV hO mdX12_pushes mvX12_pushes w1594 (ci := 12) rfl rfl (by decide) kLY_0 (As := [.int _]) (st := []) (ctX12_pushes n0 hO.2.2.2.2.2.2.1 _ _) (Nat.le_of_ble_eq_true rfl) rfl rfl (Nat.le_of_ble_eq_true rfl) dX12_reads_38 (fun z38 => ?_)
  refine b_iconst hO dX12_reads_41 ic_i_1 ?_
  refine b_istore_n hO dX12_reads_42 rfl (by decide) (lv' := [(2, .int _), (0, .ref _)]) rfl ?_
  refine b_sub [1, 0] rfl ?_
  exact tfX12_reads_43 n0 hO _ _
theorem tfX12_reads (n0 : Nat) (hO : OKc p (rmL 5) s m args meth c LY D cy ad cX12_reads RX12 3 5 none) (x1 : Int32) (M : Mem) : BL p l e (rmL 5) s m args below meth c LY D cy ad 3 (QV LY D cy ad) 0 [(0, .ref (ad 0)), (1, .int x1)] [] M (fX12_reads n0 x1 M) := by
  unfold fX12_reads
  refine b_aload_n hO dX12_reads_0 0 rfl rfl ?_
  refine b_get hO flX12_36 kLY_0 (v := .int (gI _ 8)) rfl dX12_reads_1 ?_
  refine b_if_le hO dX12_reads_4 (tgt := 8) (by decide) ?_ ?_
  · refine b_aload_n hO dX12_reads_8 0 rfl rfl ?_
    refine b_iconst hO dX12_reads_9 ic_i_0 ?_
    refine b_putI hO flX12_138 kLY_0 rfl rfl rfl (id := 41) rfl dX12_reads_10 ?_
    refine b_bnd (fun M10 => ?_)
    refine b_aload_n hO dX12_reads_13 0 rfl rfl ?_
    refine b_iconst hO dX12_reads_14 ic_i_0 ?_
    refine b_putI hO flX12_141 kLY_0 rfl rfl rfl (id := 42) rfl dX12_reads_15 ?_
    refine b_bnd (fun M15 => ?_)
    refine b_aload_n hO dX12_reads_18 0 rfl rfl ?_
    refine b_iconst hO dX12_reads_19 ic_i_0 ?_
    refine b_putI hO flX12_147 kLY_0 rfl rfl rfl (id := 44) rfl dX12_reads_20 ?_
    refine b_bnd (fun M20 => ?_)
    refine b_aload_n hO dX12_reads_23 0 rfl rfl ?_
    refine b_iconst hO dX12_reads_24 ic_i_0 ?_
    refine b_putZc hO flX12_150 kLY_0 rfl rfl rfl (id := 45) rfl (Or.inl rfl) dX12_reads_25 ?_
    refine b_bnd (fun M25 => ?_)
    refine b_aload_n hO dX12_reads_28 0 rfl rfl ?_
    refine b_iload_n hO dX12_reads_29 1 rfl rfl ?_
    refine b_if_eq hO dX12_reads_30 (tgt := 37) (by decide) ?_ ?_
    · refine b_iconst hO dX12_reads_37 ic_i_0 ?_
      refine b_sub [0] rfl ?_
      exact tfX12_reads_38 n0 hO _ _
    · refine b_iconst hO dX12_reads_33 ic_i_1 ?_
      refine b_goto hO dX12_reads_34 (tgt := 38) (by decide) ?_
      refine b_sub [0] rfl ?_
      exact tfX12_reads_38 n0 hO _ _
  · exact b_vret hO dX12_reads_7
theorem ctX12_reads (n0 : Nat) (hI : Inj LY ad) (x1 : Int32) (M : Mem) : CT l LY D cy ad yX12_reads cX12_reads 3 none 5 (QV LY D cy ad) [.ref (ad 0), .int x1] M (fX12_reads n0 x1 M) :=
  CT.mk LYok hI (by decide) (Nat.le_of_ble_eq_true rfl) (fun hO => tfX12_reads n0 hO x1 M)
/-! X12_counts -/
def fX12_counts_32 (n0 : Nat) (M : Mem) : Option (Int32 × Mem) :=
  if (gI M 8) = 0 then
    some ((1 : Int32), M)
  else
    some ((0 : Int32), M)
def fX12_counts_21 (n0 : Nat) (M : Mem) : Option (Int32 × Mem) :=
  if (gI M 8) = 0 then
    (fX12_ahead n0 M).bind fun z29 =>
    fX12_counts_32 n0 z29
  else
    fX12_counts_32 n0 M
def fX12_counts (n0 : Nat) (x1 : Int32) (M : Mem) : Option (Int32 × Mem) :=
  if (gI M 8) = 0 then
    if x1 = 0 then
      fX12_counts_21 n0 M
    else
      (fX12_blame n0 (6 : Int32) (gI M 4) M).bind fun z18 =>
      fX12_counts_21 n0 z18
  else
    fX12_counts_21 n0 M
theorem tfX12_counts_32 (n0 : Nat) (hO : OKc p (rmL 3) s m args meth c LY D cy ad cX12_counts RX12 2 3 (some .boolean)) (M : Mem) : BL p l e (rmL 3) s m args below meth c LY D cy ad 2 (QI LY D cy ad) 32 [(0, .ref (ad 0))] [] M (fX12_counts_32 n0 M) := by
  unfold fX12_counts_32
  refine b_aload_n hO dX12_counts_32 0 rfl rfl ?_
  refine b_get hO flX12_36 kLY_0 (v := .int (gI _ 8)) rfl dX12_counts_33 ?_
  refine b_if_ne hO dX12_counts_36 (tgt := 43) (by decide) ?_ ?_
  · refine b_iconst hO dX12_counts_43 ic_i_0 ?_
    exact b_zretc hO (Or.inl rfl) dX12_counts_44
  · refine b_iconst hO dX12_counts_39 ic_i_1 ?_
    refine b_goto hO dX12_counts_40 (tgt := 44) (by decide) ?_
    exact b_zretc hO (Or.inr rfl) dX12_counts_44
theorem tfX12_counts_21 (n0 : Nat) (hO : OKc p (rmL 3) s m args meth c LY D cy ad cX12_counts RX12 2 3 (some .boolean)) (M : Mem) : BL p l e (rmL 3) s m args below meth c LY D cy ad 2 (QI LY D cy ad) 21 [(0, .ref (ad 0))] [] M (fX12_counts_21 n0 M) := by
  unfold fX12_counts_21
  refine b_aload_n hO dX12_counts_21 0 rfl rfl ?_
  refine b_get hO flX12_36 kLY_0 (v := .int (gI _ 8)) rfl dX12_counts_22 ?_
  refine b_if_ne hO dX12_counts_25 (tgt := 32) (by decide) ?_ ?_
  · exact tfX12_counts_32 n0 hO _
  · refine b_aload_n hO dX12_counts_28 0 rfl rfl ?_
    refine b_callVV hO mdX12_ahead mvX12_ahead w1473 (ci := 12) rfl rfl (by decide) kLY_0 (As := []) (st := []) (ctX12_ahead n0 hO.2.2.2.2.2.2.1 _) (Nat.le_of_ble_eq_true rfl) rfl rfl (Nat.le_of_ble_eq_true rfl) dX12_counts_29 (fun z29 => ?_)
    exact tfX12_counts_32 n0 hO _
theorem tfX12_counts (n0 : Nat) (hO : OKc p (rmL 3) s m args meth c LY D cy ad cX12_counts RX12 2 3 (some .boolean)) (x1 : Int32) (M : Mem) : BL p l e (rmL 3) s m args below meth c LY D cy ad 2 (QI LY D cy ad) 0 [(0, .ref (ad 0)), (1, .int x1)] [] M (fX12_counts n0 x1 M) := by
  unfold fX12_counts
  refine b_aload_n hO dX12_counts_0 0 rfl rfl ?_
  refine b_get hO flX12_36 kLY_0 (v := .int (gI _ 8)) rfl dX12_counts_1 ?_
  refine b_if_ne hO dX12_counts_4 (tgt := 21) (by decide) ?_ ?_
  · refine b_sub [0] rfl ?_
    exact tfX12_counts_21 n0 hO _
  · refine b_iload_n hO dX12_counts_7 1 rfl rfl ?_
    refine b_if_eq hO dX12_counts_8 (tgt := 21) (by decide) ?_ ?_
    · refine b_sub [0] rfl ?_
      exact tfX12_counts_21 n0 hO _
    · refine b_aload_n hO dX12_counts_11 0 rfl rfl ?_
      refine b_bipush hO dX12_counts_12 ic_b_6 ?_
      refine b_aload_n hO dX12_counts_14 0 rfl rfl ?_
      refine b_get hO flX12_23 kLY_0 (v := .int (gI _ 4)) rfl dX12_counts_15 ?_
      refine b_callVV hO mdX12_blame mvX12_blame w1491 (ci := 12) rfl rfl (by decide) kLY_0 (As := [.int _, .int _]) (st := []) (ctX12_blame n0 hO.2.2.2.2.2.2.1 _ _ _) (Nat.le_of_ble_eq_true rfl) rfl rfl (Nat.le_of_ble_eq_true rfl) dX12_counts_18 (fun z18 => ?_)
      refine b_sub [0] rfl ?_
      exact tfX12_counts_21 n0 hO _
theorem ctX12_counts (n0 : Nat) (hI : Inj LY ad) (x1 : Int32) (M : Mem) : CT l LY D cy ad yX12_counts cX12_counts 2 (some .boolean) 3 (QI LY D cy ad) [.ref (ad 0), .int x1] M (fX12_counts n0 x1 M) :=
  CT.mk LYok hI (by decide) (Nat.le_of_ble_eq_true rfl) (fun hO => tfX12_counts n0 hO x1 M)
/-! X12_must_ -/
def fX12_must__29 (n0 : Nat) (M : Mem) : Option (Mem) :=
  if (gI M 8) = 0 then
    (fX12_ahead n0 M).bind fun z37 =>
    some z37
  else
    some M
def fX12_must_ (n0 : Nat) (y1 : Int64) (M : Mem) : Option (Mem) :=
  (fX12_lex n0 M).bind fun z1 =>
  if (gI z1 8) ≤ 0 then
    (fX12_isWord n0 y1 z1).bind fun z14 =>
    if z14.1 = 0 then
      (fX12_blame n0 (1 : Int32) (gI z14.2 4) z14.2).bind fun z26 =>
      fX12_must__29 n0 z26
    else
      fX12_must__29 n0 z14.2
  else
    some z1
theorem tfX12_must__29 (n0 : Nat) (hO : OKc p (rmL 3) s m args meth c LY D cy ad cX12_must_ RX12 3 3 none) (M : Mem) : BL p l e (rmL 3) s m args below meth c LY D cy ad 3 (QV LY D cy ad) 29 [(0, .ref (ad 0))] [] M (fX12_must__29 n0 M) := by
  unfold fX12_must__29
  refine b_aload_n hO dX12_must__29 0 rfl rfl ?_
  refine b_get hO flX12_36 kLY_0 (v := .int (gI _ 8)) rfl dX12_must__30 ?_
  refine b_if_ne hO dX12_must__33 (tgt := 40) (by decide) ?_ ?_
  · exact b_vret hO dX12_must__40
  · refine b_aload_n hO dX12_must__36 0 rfl rfl ?_
    refine b_callVV hO mdX12_ahead mvX12_ahead w1473 (ci := 12) rfl rfl (by decide) kLY_0 (As := []) (st := []) (ctX12_ahead n0 hO.2.2.2.2.2.2.1 _) (Nat.le_of_ble_eq_true rfl) rfl rfl (Nat.le_of_ble_eq_true rfl) dX12_must__37 (fun z37 => ?_)
    exact b_vret hO dX12_must__40
theorem tfX12_must_ (n0 : Nat) (hO : OKc p (rmL 3) s m args meth c LY D cy ad cX12_must_ RX12 3 3 none) (y1 : Int64) (M : Mem) : BL p l e (rmL 3) s m args below meth c LY D cy ad 3 (QV LY D cy ad) 0 [(0, .ref (ad 0)), (1, .long y1)] [] M (fX12_must_ n0 y1 M) := by
  unfold fX12_must_
  refine b_aload_n hO dX12_must__0 0 rfl rfl ?_
  refine b_callVV hO mdX12_lex mvX12_lex w1487 (ci := 12) rfl rfl (by decide) kLY_0 (As := []) (st := []) (ctX12_lex n0 hO.2.2.2.2.2.2.1 _) (Nat.le_of_ble_eq_true rfl) rfl rfl (Nat.le_of_ble_eq_true rfl) dX12_must__1 (fun z1 => ?_)
  refine b_aload_n hO dX12_must__4 0 rfl rfl ?_
  refine b_get hO flX12_36 kLY_0 (v := .int (gI _ 8)) rfl dX12_must__5 ?_
  refine b_if_le hO dX12_must__8 (tgt := 12) (by decide) ?_ ?_
  · refine b_aload_n hO dX12_must__12 0 rfl rfl ?_
    refine b_lload_n hO dX12_must__13 1 rfl rfl ?_
    refine b_callVI hO mdX12_isWord mvX12_isWord w1496 (ci := 12) rfl rfl (by decide) kLY_0 (As := [.long _]) (st := []) (ctX12_isWord n0 hO.2.2.2.2.2.2.1 _ _) (Nat.le_of_ble_eq_true rfl) rfl rfl (Nat.le_of_ble_eq_true rfl) dX12_must__14 (fun z14 => ?_)
    refine b_if_ne hO dX12_must__17 (tgt := 29) (by decide) ?_ ?_
    · refine b_sub [0] rfl ?_
      exact tfX12_must__29 n0 hO _
    · refine b_aload_n hO dX12_must__20 0 rfl rfl ?_
      refine b_iconst hO dX12_must__21 ic_i_1 ?_
      refine b_aload_n hO dX12_must__22 0 rfl rfl ?_
      refine b_get hO flX12_23 kLY_0 (v := .int (gI _ 4)) rfl dX12_must__23 ?_
      refine b_callVV hO mdX12_blame mvX12_blame w1491 (ci := 12) rfl rfl (by decide) kLY_0 (As := [.int _, .int _]) (st := []) (ctX12_blame n0 hO.2.2.2.2.2.2.1 _ _ _) (Nat.le_of_ble_eq_true rfl) rfl rfl (Nat.le_of_ble_eq_true rfl) dX12_must__26 (fun z26 => ?_)
      refine b_sub [0] rfl ?_
      exact tfX12_must__29 n0 hO _
  · exact b_vret hO dX12_must__11
theorem ctX12_must_ (n0 : Nat) (hI : Inj LY ad) (y1 : Int64) (M : Mem) : CT l LY D cy ad yX12_must_ cX12_must_ 3 none 3 (QV LY D cy ad) [.ref (ad 0), .long y1] M (fX12_must_ n0 y1 M) :=
  CT.mk LYok hI (by decide) (Nat.le_of_ble_eq_true rfl) (fun hO => tfX12_must_ n0 hO y1 M)
/-! X12_has2 -/
def fX12_has2 (n0 : Nat) (x0 : Int32) (x1 : Int32) (M : Mem) : Option (Int32 × Mem) :=
  if ((x0 >>> (x1 &&& 31)) &&& (1 : Int32)) = (1 : Int32) then
    some ((1 : Int32), M)
  else
    some ((0 : Int32), M)
theorem tfX12_has2 (n0 : Nat) (hO : OKc p (rmL 1) s m args meth c LY D cy ad cX12_has2 RX12 2 1 (some .boolean)) (x0 : Int32) (x1 : Int32) (M : Mem) : BL p l e (rmL 1) s m args below meth c LY D cy ad 2 (QI LY D cy ad) 0 [(0, .int x0), (1, .int x1)] [] M (fX12_has2 n0 x0 x1 M) := by
  unfold fX12_has2
  refine b_iload_n hO dX12_has2_0 0 rfl rfl ?_
  refine b_iload_n hO dX12_has2_1 1 rfl rfl ?_
  refine b_ishr hO dX12_has2_2 ?_
  refine b_iconst hO dX12_has2_3 ic_i_1 ?_
  refine b_iand hO dX12_has2_4 ?_
  refine b_iconst hO dX12_has2_5 ic_i_1 ?_
  refine b_icmp_ne hO dX12_has2_6 (tgt := 13) (by decide) ?_ ?_
  · refine b_iconst hO dX12_has2_13 ic_i_0 ?_
    exact b_zretc hO (Or.inl rfl) dX12_has2_14
  · refine b_iconst hO dX12_has2_9 ic_i_1 ?_
    refine b_goto hO dX12_has2_10 (tgt := 14) (by decide) ?_
    exact b_zretc hO (Or.inr rfl) dX12_has2_14
theorem ctX12_has2 (n0 : Nat) (hI : Inj LY ad) (x0 : Int32) (x1 : Int32) (M : Mem) : CT l LY D cy ad yX12_has2 cX12_has2 2 (some .boolean) 1 (QI LY D cy ad) [.int x0, .int x1] M (fX12_has2 n0 x0 x1 M) :=
  CT.mk LYok hI (by decide) (Nat.le_of_ble_eq_true rfl) (fun hO => tfX12_has2 n0 hO x0 x1 M)
/-! X12_fresh -/
def fX12_fresh_77 (n0 : Nat) (k43 : Int32 → Mem → Option (Int64 × Mem)) (x1 : Int32) (M : Mem) : Option (Int64 × Mem) :=
  k43 (x1 + (1 : Int32)) M
def fX12_fresh_83 (n0 : Nat) (M : Mem) : Option (Int64 × Mem) :=
  bnd (gL M 7) fun y1_87 =>
  if (gI M 8) = 0 then
    (fX12_ahead n0 M).bind fun z96 =>
    some (y1_87, z96)
  else
    some (y1_87, M)
def bX12_fresh_43 (n0 : Nat) (k43 : Int32 → Mem → Option (Int64 × Mem)) (x1 : Int32) (M : Mem) : Option (Int64 × Mem) :=
  if (2 : Int32) < x1 then
    fX12_fresh_83 n0 M
  else
    if (gI M 8) = 0 then
      (fX12_named n0 x1 (gL M 7) M).bind fun z61 =>
      if z61.1 = (-1 : Int32) then
        fX12_fresh_77 n0 k43 x1 z61.2
      else
        (fX12_blame n0 (2 : Int32) (gI z61.2 4) z61.2).bind fun z74 =>
        fX12_fresh_77 n0 k43 x1 z74
    else
      fX12_fresh_83 n0 M
def fX12_fresh_43 (n0 : Nat) : Int32 → Mem → Option (Int64 × Mem) := loopN (bX12_fresh_43 n0) (fun _ _ => none) n0
def fX12_fresh_41 (n0 : Nat) (M : Mem) : Option (Int64 × Mem) :=
  fX12_fresh_43 n0 (0 : Int32) M
def fX12_fresh_32 (n0 : Nat) (M : Mem) : Option (Int64 × Mem) :=
  (fX12_blame n0 (1 : Int32) (gI M 4) M).bind fun z38 =>
  fX12_fresh_41 n0 z38
def fX12_fresh (n0 : Nat) (M : Mem) : Option (Int64 × Mem) :=
  (fX12_lex n0 M).bind fun z1 =>
  if (gI z1 8) ≤ 0 then
    if (gI z1 3) = (1 : Int32) then
      (fX12_isOwn n0 (gL z1 7) z1).bind fun z26 =>
      if z26.1 = 0 then
        fX12_fresh_41 n0 z26.2
      else
        fX12_fresh_32 n0 z26.2
    else
      fX12_fresh_32 n0 z1
  else
    some ((0 : Int64), z1)
theorem tfX12_fresh_77 (n0 : Nat) (hO : OKc p (rmL 3) s m args meth c LY D cy ad cX12_fresh RX12 3 3 (some .long)) (k43 : Int32 → Mem → Option (Int64 × Mem)) (hk43 : ∀ (x1 : Int32) (M : Mem), BL p l e (rmL 3) s m args below meth c LY D cy ad 3 (QL LY D cy ad) 43 [(0, .ref (ad 0)), (1, .int x1)] [] M (k43 x1 M)) (x1 : Int32) (M : Mem) : BL p l e (rmL 3) s m args below meth c LY D cy ad 3 (QL LY D cy ad) 77 [(0, .ref (ad 0)), (1, .int x1)] [] M (fX12_fresh_77 n0 k43 x1 M) := by
  unfold fX12_fresh_77
  refine b_iinc hO dX12_fresh_77 1 rfl ic_i_1 (by decide) (lv' := [(1, .int _), (0, .ref _)]) rfl ?_
  refine b_goto hO dX12_fresh_80 (tgt := 43) (by decide) ?_
  refine b_sub [1, 0] rfl ?_
  exact hk43 _ _
theorem tfX12_fresh_83 (n0 : Nat) (hO : OKc p (rmL 3) s m args meth c LY D cy ad cX12_fresh RX12 3 3 (some .long)) (M : Mem) : BL p l e (rmL 3) s m args below meth c LY D cy ad 3 (QL LY D cy ad) 83 [(0, .ref (ad 0))] [] M (fX12_fresh_83 n0 M) := by
  unfold fX12_fresh_83
  refine b_aload_n hO dX12_fresh_83 0 rfl rfl ?_
  refine b_get hO flX12_32 kLY_0 (v := .long (gL _ 7)) rfl dX12_fresh_84 ?_
  refine b_topL (fun y1_87 => ?_)
  refine b_lstore_n hO dX12_fresh_87 rfl (by decide) (lv' := [(1, .long _), (0, .ref _)]) rfl ?_
  refine b_aload_n hO dX12_fresh_88 1 rfl rfl ?_
  refine b_get hO flX12_36 kLY_0 (v := .int (gI _ 8)) rfl dX12_fresh_89 ?_
  refine b_if_ne hO dX12_fresh_92 (tgt := 99) (by decide) ?_ ?_
  · refine b_lload_n hO dX12_fresh_99 0 rfl rfl ?_
    exact b_lret hO dX12_fresh_100
  · refine b_aload_n hO dX12_fresh_95 1 rfl rfl ?_
    refine b_callVV hO mdX12_ahead mvX12_ahead w1473 (ci := 12) rfl rfl (by decide) kLY_0 (As := []) (st := []) (ctX12_ahead n0 hO.2.2.2.2.2.2.1 _) (Nat.le_of_ble_eq_true rfl) rfl rfl (Nat.le_of_ble_eq_true rfl) dX12_fresh_96 (fun z96 => ?_)
    refine b_lload_n hO dX12_fresh_99 0 rfl rfl ?_
    exact b_lret hO dX12_fresh_100
theorem tbX12_fresh_43 (n0 : Nat) (hO : OKc p (rmL 3) s m args meth c LY D cy ad cX12_fresh RX12 3 3 (some .long)) (k43 : Int32 → Mem → Option (Int64 × Mem)) (hk43 : ∀ (x1 : Int32) (M : Mem), BL p l e (rmL 3) s m args below meth c LY D cy ad 3 (QL LY D cy ad) 43 [(0, .ref (ad 0)), (1, .int x1)] [] M (k43 x1 M)) (x1 : Int32) (M : Mem) : BL p l e (rmL 3) s m args below meth c LY D cy ad 3 (QL LY D cy ad) 43 [(0, .ref (ad 0)), (1, .int x1)] [] M (bX12_fresh_43 n0 k43 x1 M) := by
  unfold bX12_fresh_43
  refine b_iload_n hO dX12_fresh_43 1 rfl rfl ?_
  refine b_iconst hO dX12_fresh_44 ic_i_2 ?_
  refine b_icmp_gt hO dX12_fresh_45 (tgt := 83) (by decide) ?_ ?_
  · refine b_sub [0] rfl ?_
    exact tfX12_fresh_83 n0 hO _
  · refine b_aload_n hO dX12_fresh_48 0 rfl rfl ?_
    refine b_get hO flX12_36 kLY_0 (v := .int (gI _ 8)) rfl dX12_fresh_49 ?_
    refine b_if_ne hO dX12_fresh_52 (tgt := 83) (by decide) ?_ ?_
    · refine b_sub [0] rfl ?_
      exact tfX12_fresh_83 n0 hO _
    · refine b_aload_n hO dX12_fresh_55 0 rfl rfl ?_
      refine b_iload_n hO dX12_fresh_56 1 rfl rfl ?_
      refine b_aload_n hO dX12_fresh_57 0 rfl rfl ?_
      refine b_get hO flX12_32 kLY_0 (v := .long (gL _ 7)) rfl dX12_fresh_58 ?_
      refine b_callVI hO mdX12_named mvX12_named w1540 (ci := 12) rfl rfl (by decide) kLY_0 (As := [.int _, .long _]) (st := []) (ctX12_named n0 hO.2.2.2.2.2.2.1 _ _ _) (Nat.le_of_ble_eq_true rfl) rfl rfl (Nat.le_of_ble_eq_true rfl) dX12_fresh_61 (fun z61 => ?_)
      refine b_iconst hO dX12_fresh_64 ic_i_m1 ?_
      refine b_icmp_eq hO dX12_fresh_65 (tgt := 77) (by decide) ?_ ?_
      · exact tfX12_fresh_77 n0 hO k43 hk43 _ _
      · refine b_aload_n hO dX12_fresh_68 0 rfl rfl ?_
        refine b_iconst hO dX12_fresh_69 ic_i_2 ?_
        refine b_aload_n hO dX12_fresh_70 0 rfl rfl ?_
        refine b_get hO flX12_23 kLY_0 (v := .int (gI _ 4)) rfl dX12_fresh_71 ?_
        refine b_callVV hO mdX12_blame mvX12_blame w1491 (ci := 12) rfl rfl (by decide) kLY_0 (As := [.int _, .int _]) (st := []) (ctX12_blame n0 hO.2.2.2.2.2.2.1 _ _ _) (Nat.le_of_ble_eq_true rfl) rfl rfl (Nat.le_of_ble_eq_true rfl) dX12_fresh_74 (fun z74 => ?_)
        exact tfX12_fresh_77 n0 hO k43 hk43 _ _
theorem lX12_fresh_43 (n0 : Nat) (hO : OKc p (rmL 3) s m args meth c LY D cy ad cX12_fresh RX12 3 3 (some .long)) : ∀ (w : Nat) (x1 : Int32) (M : Mem), BL p l e (rmL 3) s m args below meth c LY D cy ad 3 (QL LY D cy ad) 43 [(0, .ref (ad 0)), (1, .int x1)] [] M (loopN (bX12_fresh_43 n0) (fun _ _ => none) w x1 M) := by
  intro w
  induction w with
  | zero =>
    intros
    exact b_none
  | succ w ih =>
    intro x1 M
    exact tbX12_fresh_43 n0 hO _ ih x1 M
theorem tfX12_fresh_43 (n0 : Nat) (hO : OKc p (rmL 3) s m args meth c LY D cy ad cX12_fresh RX12 3 3 (some .long)) (x1 : Int32) (M : Mem) : BL p l e (rmL 3) s m args below meth c LY D cy ad 3 (QL LY D cy ad) 43 [(0, .ref (ad 0)), (1, .int x1)] [] M (fX12_fresh_43 n0 x1 M) := lX12_fresh_43 n0 hO n0 x1 M
theorem tfX12_fresh_41 (n0 : Nat) (hO : OKc p (rmL 3) s m args meth c LY D cy ad cX12_fresh RX12 3 3 (some .long)) (M : Mem) : BL p l e (rmL 3) s m args below meth c LY D cy ad 3 (QL LY D cy ad) 41 [(0, .ref (ad 0))] [] M (fX12_fresh_41 n0 M) := by
  unfold fX12_fresh_41
  refine b_iconst hO dX12_fresh_41 ic_i_0 ?_
  refine b_istore_n hO dX12_fresh_42 rfl (by decide) (lv' := [(1, .int _), (0, .ref _)]) rfl ?_
  refine b_sub [1, 0] rfl ?_
  exact tfX12_fresh_43 n0 hO _ _
theorem tfX12_fresh_32 (n0 : Nat) (hO : OKc p (rmL 3) s m args meth c LY D cy ad cX12_fresh RX12 3 3 (some .long)) (M : Mem) : BL p l e (rmL 3) s m args below meth c LY D cy ad 3 (QL LY D cy ad) 32 [(0, .ref (ad 0))] [] M (fX12_fresh_32 n0 M) := by
  unfold fX12_fresh_32
  refine b_aload_n hO dX12_fresh_32 0 rfl rfl ?_
  refine b_iconst hO dX12_fresh_33 ic_i_1 ?_
  refine b_aload_n hO dX12_fresh_34 0 rfl rfl ?_
  refine b_get hO flX12_23 kLY_0 (v := .int (gI _ 4)) rfl dX12_fresh_35 ?_
  refine b_callVV hO mdX12_blame mvX12_blame w1491 (ci := 12) rfl rfl (by decide) kLY_0 (As := [.int _, .int _]) (st := []) (ctX12_blame n0 hO.2.2.2.2.2.2.1 _ _ _) (Nat.le_of_ble_eq_true rfl) rfl rfl (Nat.le_of_ble_eq_true rfl) dX12_fresh_38 (fun z38 => ?_)
  exact tfX12_fresh_41 n0 hO _
theorem tfX12_fresh (n0 : Nat) (hO : OKc p (rmL 3) s m args meth c LY D cy ad cX12_fresh RX12 3 3 (some .long)) (M : Mem) : BL p l e (rmL 3) s m args below meth c LY D cy ad 3 (QL LY D cy ad) 0 [(0, .ref (ad 0))] [] M (fX12_fresh n0 M) := by
  unfold fX12_fresh
  refine b_aload_n hO dX12_fresh_0 0 rfl rfl ?_
  refine b_callVV hO mdX12_lex mvX12_lex w1487 (ci := 12) rfl rfl (by decide) kLY_0 (As := []) (st := []) (ctX12_lex n0 hO.2.2.2.2.2.2.1 _) (Nat.le_of_ble_eq_true rfl) rfl rfl (Nat.le_of_ble_eq_true rfl) dX12_fresh_1 (fun z1 => ?_)
  refine b_aload_n hO dX12_fresh_4 0 rfl rfl ?_
  refine b_get hO flX12_36 kLY_0 (v := .int (gI _ 8)) rfl dX12_fresh_5 ?_
  refine b_if_le hO dX12_fresh_8 (tgt := 13) (by decide) ?_ ?_
  · refine b_aload_n hO dX12_fresh_13 0 rfl rfl ?_
    refine b_get hO flX12_20 kLY_0 (v := .int (gI _ 3)) rfl dX12_fresh_14 ?_
    refine b_iconst hO dX12_fresh_17 ic_i_1 ?_
    refine b_icmp_ne hO dX12_fresh_18 (tgt := 32) (by decide) ?_ ?_
    · exact tfX12_fresh_32 n0 hO _
    · refine b_aload_n hO dX12_fresh_21 0 rfl rfl ?_
      refine b_aload_n hO dX12_fresh_22 0 rfl rfl ?_
      refine b_get hO flX12_32 kLY_0 (v := .long (gL _ 7)) rfl dX12_fresh_23 ?_
      refine b_callVI hO mdX12_isOwn mvX12_isOwn w1512 (ci := 12) rfl rfl (by decide) kLY_0 (As := [.long _]) (st := []) (ctX12_isOwn n0 hO.2.2.2.2.2.2.1 _ _) (Nat.le_of_ble_eq_true rfl) rfl rfl (Nat.le_of_ble_eq_true rfl) dX12_fresh_26 (fun z26 => ?_)
      refine b_if_eq hO dX12_fresh_29 (tgt := 41) (by decide) ?_ ?_
      · exact tfX12_fresh_41 n0 hO _
      · exact tfX12_fresh_32 n0 hO _
  · refine b_lconst hO dX12_fresh_11 (v := 0) rfl ?_
    exact b_lret hO dX12_fresh_12
theorem ctX12_fresh (n0 : Nat) (hI : Inj LY ad) (M : Mem) : CT l LY D cy ad yX12_fresh cX12_fresh 3 (some .long) 3 (QL LY D cy ad) [.ref (ad 0)] M (fX12_fresh n0 M) :=
  CT.mk LYok hI (by decide) (Nat.le_of_ble_eq_true rfl) (fun hO => tfX12_fresh n0 hO M)
/-! X12_knownBut -/
def fX12_knownBut_102 (n0 : Nat) (x3 : Int32) (M : Mem) : Option (Int32 × Mem) :=
  if (gI M 8) ≤ 0 then
    some (x3, M)
  else
    some ((0 : Int32), M)
def fX12_knownBut_91 (n0 : Nat) (x3 : Int32) (M : Mem) : Option (Int32 × Mem) :=
  if (gI M 8) = 0 then
    (fX12_ahead n0 M).bind fun z99 =>
    fX12_knownBut_102 n0 x3 z99
  else
    fX12_knownBut_102 n0 x3 M
def fX12_knownBut_82 (n0 : Nat) (x3 : Int32) (M : Mem) : Option (Int32 × Mem) :=
  (fX12_blame n0 (3 : Int32) (gI M 4) M).bind fun z88 =>
  fX12_knownBut_91 n0 x3 z88
def fX12_knownBut_61 (n0 : Nat) (x2 : Int32) (u0 : Int32) (M : Mem) : Option (Int32 × Mem) :=
  if (gI M 8) = 0 then
    if u0 = (-1 : Int32) then
      fX12_knownBut_82 n0 u0 M
    else
      (fX12_has2 n0 x2 u0 M).bind fun z76 =>
      if z76.1 = 0 then
        fX12_knownBut_91 n0 u0 z76.2
      else
        fX12_knownBut_82 n0 u0 z76.2
  else
    fX12_knownBut_91 n0 u0 M
def fX12_knownBut_41 (n0 : Nat) (x1 : Int32) (x2 : Int32) (M : Mem) : Option (Int32 × Mem) :=
  if (gI M 8) ≤ 0 then
    (fX12_named n0 x1 (gL M 7) M).bind fun z58 =>
    fX12_knownBut_61 n0 x2 z58.1 z58.2
  else
    fX12_knownBut_61 n0 x2 (0 : Int32) M
def fX12_knownBut_32 (n0 : Nat) (x1 : Int32) (x2 : Int32) (M : Mem) : Option (Int32 × Mem) :=
  (fX12_blame n0 (1 : Int32) (gI M 4) M).bind fun z38 =>
  fX12_knownBut_41 n0 x1 x2 z38
def fX12_knownBut (n0 : Nat) (x1 : Int32) (x2 : Int32) (M : Mem) : Option (Int32 × Mem) :=
  (fX12_lex n0 M).bind fun z1 =>
  if (gI z1 8) ≤ 0 then
    if (gI z1 3) = (1 : Int32) then
      (fX12_isOwn n0 (gL z1 7) z1).bind fun z26 =>
      if z26.1 = 0 then
        fX12_knownBut_41 n0 x1 x2 z26.2
      else
        fX12_knownBut_32 n0 x1 x2 z26.2
    else
      fX12_knownBut_32 n0 x1 x2 z1
  else
    some ((0 : Int32), z1)
theorem tfX12_knownBut_102 (n0 : Nat) (hO : OKc p (rmL 3) s m args meth c LY D cy ad cX12_knownBut RX12 4 3 (some .int)) (x3 : Int32) (M : Mem) : BL p l e (rmL 3) s m args below meth c LY D cy ad 4 (QI LY D cy ad) 102 [(0, .ref (ad 0)), (3, .int x3)] [] M (fX12_knownBut_102 n0 x3 M) := by
  unfold fX12_knownBut_102
  refine b_aload_n hO dX12_knownBut_102 0 rfl rfl ?_
  refine b_get hO flX12_36 kLY_0 (v := .int (gI _ 8)) rfl dX12_knownBut_103 ?_
  refine b_if_le hO dX12_knownBut_106 (tgt := 113) (by decide) ?_ ?_
  · refine b_iload_n hO dX12_knownBut_113 1 rfl rfl ?_
    exact b_iret hO dX12_knownBut_114
  · refine b_iconst hO dX12_knownBut_109 ic_i_0 ?_
    refine b_goto hO dX12_knownBut_110 (tgt := 114) (by decide) ?_
    exact b_iret hO dX12_knownBut_114
theorem tfX12_knownBut_91 (n0 : Nat) (hO : OKc p (rmL 3) s m args meth c LY D cy ad cX12_knownBut RX12 4 3 (some .int)) (x3 : Int32) (M : Mem) : BL p l e (rmL 3) s m args below meth c LY D cy ad 4 (QI LY D cy ad) 91 [(0, .ref (ad 0)), (3, .int x3)] [] M (fX12_knownBut_91 n0 x3 M) := by
  unfold fX12_knownBut_91
  refine b_aload_n hO dX12_knownBut_91 0 rfl rfl ?_
  refine b_get hO flX12_36 kLY_0 (v := .int (gI _ 8)) rfl dX12_knownBut_92 ?_
  refine b_if_ne hO dX12_knownBut_95 (tgt := 102) (by decide) ?_ ?_
  · exact tfX12_knownBut_102 n0 hO _ _
  · refine b_aload_n hO dX12_knownBut_98 0 rfl rfl ?_
    refine b_callVV hO mdX12_ahead mvX12_ahead w1473 (ci := 12) rfl rfl (by decide) kLY_0 (As := []) (st := []) (ctX12_ahead n0 hO.2.2.2.2.2.2.1 _) (Nat.le_of_ble_eq_true rfl) rfl rfl (Nat.le_of_ble_eq_true rfl) dX12_knownBut_99 (fun z99 => ?_)
    exact tfX12_knownBut_102 n0 hO _ _
theorem tfX12_knownBut_82 (n0 : Nat) (hO : OKc p (rmL 3) s m args meth c LY D cy ad cX12_knownBut RX12 4 3 (some .int)) (x3 : Int32) (M : Mem) : BL p l e (rmL 3) s m args below meth c LY D cy ad 4 (QI LY D cy ad) 82 [(0, .ref (ad 0)), (3, .int x3)] [] M (fX12_knownBut_82 n0 x3 M) := by
  unfold fX12_knownBut_82
  refine b_aload_n hO dX12_knownBut_82 0 rfl rfl ?_
  refine b_iconst hO dX12_knownBut_83 ic_i_3 ?_
  refine b_aload_n hO dX12_knownBut_84 0 rfl rfl ?_
  refine b_get hO flX12_23 kLY_0 (v := .int (gI _ 4)) rfl dX12_knownBut_85 ?_
  refine b_callVV hO mdX12_blame mvX12_blame w1491 (ci := 12) rfl rfl (by decide) kLY_0 (As := [.int _, .int _]) (st := []) (ctX12_blame n0 hO.2.2.2.2.2.2.1 _ _ _) (Nat.le_of_ble_eq_true rfl) rfl rfl (Nat.le_of_ble_eq_true rfl) dX12_knownBut_88 (fun z88 => ?_)
  exact tfX12_knownBut_91 n0 hO _ _
theorem tfX12_knownBut_61 (n0 : Nat) (hO : OKc p (rmL 3) s m args meth c LY D cy ad cX12_knownBut RX12 4 3 (some .int)) (x2 : Int32) (u0 : Int32) (M : Mem) : BL p l e (rmL 3) s m args below meth c LY D cy ad 4 (QI LY D cy ad) 61 [(0, .ref (ad 0)), (2, .int x2)] [.int u0] M (fX12_knownBut_61 n0 x2 u0 M) := by
  unfold fX12_knownBut_61
  refine b_istore_n hO dX12_knownBut_61 rfl (by decide) (lv' := [(3, .int _), (0, .ref _), (2, .int _)]) rfl ?_
  refine b_aload_n hO dX12_knownBut_62 1 rfl rfl ?_
  refine b_get hO flX12_36 kLY_0 (v := .int (gI _ 8)) rfl dX12_knownBut_63 ?_
  refine b_if_ne hO dX12_knownBut_66 (tgt := 91) (by decide) ?_ ?_
  · refine b_sub [1, 0] rfl ?_
    exact tfX12_knownBut_91 n0 hO _ _
  · refine b_iload_n hO dX12_knownBut_69 0 rfl rfl ?_
    refine b_iconst hO dX12_knownBut_70 ic_i_m1 ?_
    refine b_icmp_eq hO dX12_knownBut_71 (tgt := 82) (by decide) ?_ ?_
    · refine b_sub [1, 0] rfl ?_
      exact tfX12_knownBut_82 n0 hO _ _
    · refine b_iload_n hO dX12_knownBut_74 2 rfl rfl ?_
      refine b_iload_n hO dX12_knownBut_75 0 rfl rfl ?_
      refine b_callSI hO mdX12_has2 w1576 w1575 (As := [.int _, .int _]) (st := []) (ctX12_has2 n0 hO.2.2.2.2.2.2.1 _ _ _) (Nat.le_of_ble_eq_true rfl) rfl rfl (Nat.le_of_ble_eq_true rfl) dX12_knownBut_76 (fun z76 => ?_)
      refine b_if_eq hO dX12_knownBut_79 (tgt := 91) (by decide) ?_ ?_
      · refine b_sub [1, 0] rfl ?_
        exact tfX12_knownBut_91 n0 hO _ _
      · refine b_sub [1, 0] rfl ?_
        exact tfX12_knownBut_82 n0 hO _ _
theorem tfX12_knownBut_41 (n0 : Nat) (hO : OKc p (rmL 3) s m args meth c LY D cy ad cX12_knownBut RX12 4 3 (some .int)) (x1 : Int32) (x2 : Int32) (M : Mem) : BL p l e (rmL 3) s m args below meth c LY D cy ad 4 (QI LY D cy ad) 41 [(0, .ref (ad 0)), (1, .int x1), (2, .int x2)] [] M (fX12_knownBut_41 n0 x1 x2 M) := by
  unfold fX12_knownBut_41
  refine b_aload_n hO dX12_knownBut_41 0 rfl rfl ?_
  refine b_get hO flX12_36 kLY_0 (v := .int (gI _ 8)) rfl dX12_knownBut_42 ?_
  refine b_if_le hO dX12_knownBut_45 (tgt := 52) (by decide) ?_ ?_
  · refine b_aload_n hO dX12_knownBut_52 0 rfl rfl ?_
    refine b_iload_n hO dX12_knownBut_53 1 rfl rfl ?_
    refine b_aload_n hO dX12_knownBut_54 0 rfl rfl ?_
    refine b_get hO flX12_32 kLY_0 (v := .long (gL _ 7)) rfl dX12_knownBut_55 ?_
    refine b_callVI hO mdX12_named mvX12_named w1540 (ci := 12) rfl rfl (by decide) kLY_0 (As := [.int _, .long _]) (st := []) (ctX12_named n0 hO.2.2.2.2.2.2.1 _ _ _) (Nat.le_of_ble_eq_true rfl) rfl rfl (Nat.le_of_ble_eq_true rfl) dX12_knownBut_58 (fun z58 => ?_)
    refine b_sub [0, 2] rfl ?_
    exact tfX12_knownBut_61 n0 hO _ _ _
  · refine b_iconst hO dX12_knownBut_48 ic_i_0 ?_
    refine b_goto hO dX12_knownBut_49 (tgt := 61) (by decide) ?_
    refine b_sub [0, 2] rfl ?_
    exact tfX12_knownBut_61 n0 hO _ _ _
theorem tfX12_knownBut_32 (n0 : Nat) (hO : OKc p (rmL 3) s m args meth c LY D cy ad cX12_knownBut RX12 4 3 (some .int)) (x1 : Int32) (x2 : Int32) (M : Mem) : BL p l e (rmL 3) s m args below meth c LY D cy ad 4 (QI LY D cy ad) 32 [(0, .ref (ad 0)), (1, .int x1), (2, .int x2)] [] M (fX12_knownBut_32 n0 x1 x2 M) := by
  unfold fX12_knownBut_32
  refine b_aload_n hO dX12_knownBut_32 0 rfl rfl ?_
  refine b_iconst hO dX12_knownBut_33 ic_i_1 ?_
  refine b_aload_n hO dX12_knownBut_34 0 rfl rfl ?_
  refine b_get hO flX12_23 kLY_0 (v := .int (gI _ 4)) rfl dX12_knownBut_35 ?_
  refine b_callVV hO mdX12_blame mvX12_blame w1491 (ci := 12) rfl rfl (by decide) kLY_0 (As := [.int _, .int _]) (st := []) (ctX12_blame n0 hO.2.2.2.2.2.2.1 _ _ _) (Nat.le_of_ble_eq_true rfl) rfl rfl (Nat.le_of_ble_eq_true rfl) dX12_knownBut_38 (fun z38 => ?_)
  exact tfX12_knownBut_41 n0 hO _ _ _
theorem tfX12_knownBut (n0 : Nat) (hO : OKc p (rmL 3) s m args meth c LY D cy ad cX12_knownBut RX12 4 3 (some .int)) (x1 : Int32) (x2 : Int32) (M : Mem) : BL p l e (rmL 3) s m args below meth c LY D cy ad 4 (QI LY D cy ad) 0 [(0, .ref (ad 0)), (1, .int x1), (2, .int x2)] [] M (fX12_knownBut n0 x1 x2 M) := by
  unfold fX12_knownBut
  refine b_aload_n hO dX12_knownBut_0 0 rfl rfl ?_
  refine b_callVV hO mdX12_lex mvX12_lex w1487 (ci := 12) rfl rfl (by decide) kLY_0 (As := []) (st := []) (ctX12_lex n0 hO.2.2.2.2.2.2.1 _) (Nat.le_of_ble_eq_true rfl) rfl rfl (Nat.le_of_ble_eq_true rfl) dX12_knownBut_1 (fun z1 => ?_)
  refine b_aload_n hO dX12_knownBut_4 0 rfl rfl ?_
  refine b_get hO flX12_36 kLY_0 (v := .int (gI _ 8)) rfl dX12_knownBut_5 ?_
  refine b_if_le hO dX12_knownBut_8 (tgt := 13) (by decide) ?_ ?_
  · refine b_aload_n hO dX12_knownBut_13 0 rfl rfl ?_
    refine b_get hO flX12_20 kLY_0 (v := .int (gI _ 3)) rfl dX12_knownBut_14 ?_
    refine b_iconst hO dX12_knownBut_17 ic_i_1 ?_
    refine b_icmp_ne hO dX12_knownBut_18 (tgt := 32) (by decide) ?_ ?_
    · exact tfX12_knownBut_32 n0 hO _ _ _
    · refine b_aload_n hO dX12_knownBut_21 0 rfl rfl ?_
      refine b_aload_n hO dX12_knownBut_22 0 rfl rfl ?_
      refine b_get hO flX12_32 kLY_0 (v := .long (gL _ 7)) rfl dX12_knownBut_23 ?_
      refine b_callVI hO mdX12_isOwn mvX12_isOwn w1512 (ci := 12) rfl rfl (by decide) kLY_0 (As := [.long _]) (st := []) (ctX12_isOwn n0 hO.2.2.2.2.2.2.1 _ _) (Nat.le_of_ble_eq_true rfl) rfl rfl (Nat.le_of_ble_eq_true rfl) dX12_knownBut_26 (fun z26 => ?_)
      refine b_if_eq hO dX12_knownBut_29 (tgt := 41) (by decide) ?_ ?_
      · exact tfX12_knownBut_41 n0 hO _ _ _
      · exact tfX12_knownBut_32 n0 hO _ _ _
  · refine b_iconst hO dX12_knownBut_11 ic_i_0 ?_
    exact b_iret hO dX12_knownBut_12
theorem ctX12_knownBut (n0 : Nat) (hI : Inj LY ad) (x1 : Int32) (x2 : Int32) (M : Mem) : CT l LY D cy ad yX12_knownBut cX12_knownBut 4 (some .int) 3 (QI LY D cy ad) [.ref (ad 0), .int x1, .int x2] M (fX12_knownBut n0 x1 x2 M) :=
  CT.mk LYok hI (by decide) (Nat.le_of_ble_eq_true rfl) (fun hO => tfX12_knownBut n0 hO x1 x2 M)
/-! X12_at -/
def fX12_at (n0 : Nat) (x1 : Int32) (x2 : Int32) (x3 : Int32) (M : Mem) : Option (Int32 × Mem) :=
  some (((((25 : Int32) * x1) + ((5 : Int32) * x2)) + x3), M)
theorem tfX12_at (n0 : Nat) (hO : OKc p (rmL 1) s m args meth c LY D cy ad cX12_at RX12 4 1 (some .int)) (x1 : Int32) (x2 : Int32) (x3 : Int32) (M : Mem) : BL p l e (rmL 1) s m args below meth c LY D cy ad 4 (QI LY D cy ad) 0 [(0, .ref (ad 0)), (1, .int x1), (2, .int x2), (3, .int x3)] [] M (fX12_at n0 x1 x2 x3 M) := by
  unfold fX12_at
  refine b_bipush hO dX12_at_0 ic_b_25 ?_
  refine b_iload_n hO dX12_at_2 1 rfl rfl ?_
  refine b_imul hO dX12_at_3 ?_
  refine b_iconst hO dX12_at_4 ic_i_5 ?_
  refine b_iload_n hO dX12_at_5 2 rfl rfl ?_
  refine b_imul hO dX12_at_6 ?_
  refine b_iadd hO dX12_at_7 ?_
  refine b_iload_n hO dX12_at_8 3 rfl rfl ?_
  refine b_iadd hO dX12_at_9 ?_
  exact b_iret hO dX12_at_10
theorem ctX12_at (n0 : Nat) (hI : Inj LY ad) (x1 : Int32) (x2 : Int32) (x3 : Int32) (M : Mem) : CT l LY D cy ad yX12_at cX12_at 4 (some .int) 1 (QI LY D cy ad) [.ref (ad 0), .int x1, .int x2, .int x3] M (fX12_at n0 x1 x2 x3 M) :=
  CT.mk LYok hI (by decide) (Nat.le_of_ble_eq_true rfl) (fun hO => tfX12_at n0 hO x1 x2 x3 M)
/-! X12_thinging -/
def fX12_thinging_20 (n0 : Nat) (u1 : Int32) (M : Mem) : Option (Mem) :=
  (fX12_counts n0 u1 M).bind fun z20 =>
  if z20.1 = 0 then
    some z20.2
  else
    if oob (gI z20.2 34) 2 then none else
    bnd (((6 : Int32) * (gI z20.2 34)) + (gA z20.2 2 (Int32.toNatClampNeg (gI z20.2 34)))) fun x1_44 =>
    (fX12_fresh n0 z20.2).bind fun z51 =>
    if oob x1_44 12 then none else
    bnd (sB z51.2 18 (Int32.toNatClampNeg x1_44) z51.1) fun M54 =>
    (fX12_must_ n0 (512802514792 : Int64) M54).bind fun z59 =>
    (fX12_number n0 (0 : Int32) (99 : Int32) z59).bind fun z71 =>
    if oob x1_44 12 then none else
    bnd (sA z71.2 3 (Int32.toNatClampNeg x1_44) z71.1) fun M74 =>
    (fX12_must_ n0 (465491424371 : Int64) M74).bind fun z79 =>
    (fX12_number n0 (1 : Int32) (99 : Int32) z79).bind fun z91 =>
    if oob x1_44 12 then none else
    bnd (sA z91.2 4 (Int32.toNatClampNeg x1_44) z91.1) fun M94 =>
    if (gI M94 8) = 0 then
      if oob (gI M94 34) 2 then none else
      if oob (gI M94 34) 2 then none else
      some (sA M94 2 (Int32.toNatClampNeg (gI M94 34)) ((gA M94 2 (Int32.toNatClampNeg (gI M94 34))) + (1 : Int32)))
    else
      some M94
def fX12_thinging (n0 : Nat) (M : Mem) : Option (Mem) :=
  if oob (gI M 34) 2 then none else
  if (gA M 2 (Int32.toNatClampNeg (gI M 34))) = (6 : Int32) then
    fX12_thinging_20 n0 (1 : Int32) M
  else
    fX12_thinging_20 n0 (0 : Int32) M
theorem tfX12_thinging_20 (n0 : Nat) (hO : OKc p (rmL 4) s m args meth c LY D cy ad cX12_thinging RX12 2 4 none) (u1 : Int32) (M : Mem) : BL p l e (rmL 4) s m args below meth c LY D cy ad 2 (QV LY D cy ad) 20 [(0, .ref (ad 0))] [.int u1, .ref (ad 0)] M (fX12_thinging_20 n0 u1 M) := by
  unfold fX12_thinging_20
  refine b_callVI hO mdX12_counts mvX12_counts w1504 (ci := 12) rfl rfl (by decide) kLY_0 (As := [.int _]) (st := []) (ctX12_counts n0 hO.2.2.2.2.2.2.1 _ _) (Nat.le_of_ble_eq_true rfl) rfl rfl (Nat.le_of_ble_eq_true rfl) dX12_thinging_20 (fun z20 => ?_)
  refine b_if_ne hO dX12_thinging_23 (tgt := 27) (by decide) ?_ ?_
  · refine b_bipush hO dX12_thinging_27 ic_b_6 ?_
    refine b_aload_n hO dX12_thinging_29 0 rfl rfl ?_
    refine b_get hO flX12_115 kLY_0 (v := .int (gI _ 34)) rfl dX12_thinging_30 ?_
    refine b_imul hO dX12_thinging_33 ?_
    refine b_aload_n hO dX12_thinging_34 0 rfl rfl ?_
    refine b_get hO flX12_54 kLY_0 (v := .ref (ad 2)) rfl dX12_thinging_35 ?_
    refine b_aload_n hO dX12_thinging_38 0 rfl rfl ?_
    refine b_get hO flX12_115 kLY_0 (v := .int (gI _ 34)) rfl dX12_thinging_39 ?_
    refine b_iald hO kLY_2 (n := 2) rfl dX12_thinging_42 ?_
    refine b_iadd hO dX12_thinging_43 ?_
    refine b_topI (fun x1_44 => ?_)
    refine b_istore_n hO dX12_thinging_44 rfl (by decide) (lv' := [(1, .int _), (0, .ref _)]) rfl ?_
    refine b_aload_n hO dX12_thinging_45 1 rfl rfl ?_
    refine b_get hO flX12_102 kLY_0 (v := .ref (ad 18)) rfl dX12_thinging_46 ?_
    refine b_iload_n hO dX12_thinging_49 0 rfl rfl ?_
    refine b_aload_n hO dX12_thinging_50 1 rfl rfl ?_
    refine b_callVL hO mdX12_fresh mvX12_fresh w1508 (ci := 12) rfl rfl (by decide) kLY_0 (As := []) (st := [.int _, .ref _]) (ctX12_fresh n0 hO.2.2.2.2.2.2.1 _) (Nat.le_of_ble_eq_true rfl) rfl rfl (Nat.le_of_ble_eq_true rfl) dX12_thinging_51 (fun z51 => ?_)
    refine b_last hO kLY_18 (n := 12) rfl dX12_thinging_54 ?_
    refine b_bnd (fun M54 => ?_)
    refine b_aload_n hO dX12_thinging_55 1 rfl rfl ?_
    refine b_ldc2 hO w1516 dX12_thinging_56 ?_
    refine b_callVV hO mdX12_must_ mvX12_must_ w1552 (ci := 12) rfl rfl (by decide) kLY_0 (As := [.long _]) (st := []) (ctX12_must_ n0 hO.2.2.2.2.2.2.1 _ _) (Nat.le_of_ble_eq_true rfl) rfl rfl (Nat.le_of_ble_eq_true rfl) dX12_thinging_59 (fun z59 => ?_)
    refine b_aload_n hO dX12_thinging_62 1 rfl rfl ?_
    refine b_get hO flX12_57 kLY_0 (v := .ref (ad 3)) rfl dX12_thinging_63 ?_
    refine b_iload_n hO dX12_thinging_66 0 rfl rfl ?_
    refine b_aload_n hO dX12_thinging_67 1 rfl rfl ?_
    refine b_iconst hO dX12_thinging_68 ic_i_0 ?_
    refine b_bipush hO dX12_thinging_69 ic_b_99 ?_
    refine b_callVI hO mdX12_number mvX12_number w1556 (ci := 12) rfl rfl (by decide) kLY_0 (As := [.int _, .int _]) (st := [.int _, .ref _]) (ctX12_number n0 hO.2.2.2.2.2.2.1 _ _ _) (Nat.le_of_ble_eq_true rfl) rfl rfl (Nat.le_of_ble_eq_true rfl) dX12_thinging_71 (fun z71 => ?_)
    refine b_iast hO kLY_3 (n := 12) rfl dX12_thinging_74 ?_
    refine b_bnd (fun M74 => ?_)
    refine b_aload_n hO dX12_thinging_75 1 rfl rfl ?_
    refine b_ldc2 hO w1517 dX12_thinging_76 ?_
    refine b_callVV hO mdX12_must_ mvX12_must_ w1552 (ci := 12) rfl rfl (by decide) kLY_0 (As := [.long _]) (st := []) (ctX12_must_ n0 hO.2.2.2.2.2.2.1 _ _) (Nat.le_of_ble_eq_true rfl) rfl rfl (Nat.le_of_ble_eq_true rfl) dX12_thinging_79 (fun z79 => ?_)
    refine b_aload_n hO dX12_thinging_82 1 rfl rfl ?_
    refine b_get hO flX12_60 kLY_0 (v := .ref (ad 4)) rfl dX12_thinging_83 ?_
    refine b_iload_n hO dX12_thinging_86 0 rfl rfl ?_
    refine b_aload_n hO dX12_thinging_87 1 rfl rfl ?_
    refine b_iconst hO dX12_thinging_88 ic_i_1 ?_
    refine b_bipush hO dX12_thinging_89 ic_b_99 ?_
    refine b_callVI hO mdX12_number mvX12_number w1556 (ci := 12) rfl rfl (by decide) kLY_0 (As := [.int _, .int _]) (st := [.int _, .ref _]) (ctX12_number n0 hO.2.2.2.2.2.2.1 _ _ _) (Nat.le_of_ble_eq_true rfl) rfl rfl (Nat.le_of_ble_eq_true rfl) dX12_thinging_91 (fun z91 => ?_)
    refine b_iast hO kLY_4 (n := 12) rfl dX12_thinging_94 ?_
    refine b_bnd (fun M94 => ?_)
    refine b_aload_n hO dX12_thinging_95 1 rfl rfl ?_
    refine b_get hO flX12_36 kLY_0 (v := .int (gI _ 8)) rfl dX12_thinging_96 ?_
    refine b_if_ne hO dX12_thinging_99 (tgt := 115) (by decide) ?_ ?_
    · exact b_vret hO dX12_thinging_115
    · refine b_aload_n hO dX12_thinging_102 1 rfl rfl ?_
      refine b_get hO flX12_54 kLY_0 (v := .ref (ad 2)) rfl dX12_thinging_103 ?_
      refine b_aload_n hO dX12_thinging_106 1 rfl rfl ?_
      refine b_get hO flX12_115 kLY_0 (v := .int (gI _ 34)) rfl dX12_thinging_107 ?_
      refine b_dup2 hO dX12_thinging_110 rfl rfl ?_
      refine b_iald hO kLY_2 (n := 2) rfl dX12_thinging_111 ?_
      refine b_iconst hO dX12_thinging_112 ic_i_1 ?_
      refine b_iadd hO dX12_thinging_113 ?_
      refine b_iast hO kLY_2 (n := 2) rfl dX12_thinging_114 ?_
      exact b_vret hO dX12_thinging_115
  · exact b_vret hO dX12_thinging_26
theorem tfX12_thinging (n0 : Nat) (hO : OKc p (rmL 4) s m args meth c LY D cy ad cX12_thinging RX12 2 4 none) (M : Mem) : BL p l e (rmL 4) s m args below meth c LY D cy ad 2 (QV LY D cy ad) 0 [(0, .ref (ad 0))] [] M (fX12_thinging n0 M) := by
  unfold fX12_thinging
  refine b_aload_n hO dX12_thinging_0 0 rfl rfl ?_
  refine b_aload_n hO dX12_thinging_1 0 rfl rfl ?_
  refine b_get hO flX12_54 kLY_0 (v := .ref (ad 2)) rfl dX12_thinging_2 ?_
  refine b_aload_n hO dX12_thinging_5 0 rfl rfl ?_
  refine b_get hO flX12_115 kLY_0 (v := .int (gI _ 34)) rfl dX12_thinging_6 ?_
  refine b_iald hO kLY_2 (n := 2) rfl dX12_thinging_9 ?_
  refine b_bipush hO dX12_thinging_10 ic_b_6 ?_
  refine b_icmp_ne hO dX12_thinging_12 (tgt := 19) (by decide) ?_ ?_
  · refine b_iconst hO dX12_thinging_19 ic_i_0 ?_
    exact tfX12_thinging_20 n0 hO _ _
  · refine b_iconst hO dX12_thinging_15 ic_i_1 ?_
    refine b_goto hO dX12_thinging_16 (tgt := 20) (by decide) ?_
    exact tfX12_thinging_20 n0 hO _ _
theorem ctX12_thinging (n0 : Nat) (hI : Inj LY ad) (M : Mem) : CT l LY D cy ad yX12_thinging cX12_thinging 2 none 4 (QV LY D cy ad) [.ref (ad 0)] M (fX12_thinging n0 M) :=
  CT.mk LYok hI (by decide) (Nat.le_of_ble_eq_true rfl) (fun hO => tfX12_thinging n0 hO M)
/-! X12_cornering -/
def fX12_cornering_19 (n0 : Nat) (u1 : Int32) (M : Mem) : Option (Mem) :=
  (fX12_counts n0 u1 M).bind fun z19 =>
  if z19.1 = 0 then
    some z19.2
  else
    if oob (gI z19.2 34) 2 then none else
    (fX12_fresh n0 z19.2).bind fun z47 =>
    if oob (((5 : Int32) * (gI z19.2 34)) + (gA z19.2 5 (Int32.toNatClampNeg (gI z19.2 34)))) 10 then none else
    bnd (sB z47.2 19 (Int32.toNatClampNeg (((5 : Int32) * (gI z19.2 34)) + (gA z19.2 5 (Int32.toNatClampNeg (gI z19.2 34))))) z47.1) fun M50 =>
    if oob (gI M50 34) 2 then none else
    if oob (((5 : Int32) * (gI M50 34)) + (gA M50 5 (Int32.toNatClampNeg (gI M50 34)))) 10 then none else
    bnd (sA M50 6 (Int32.toNatClampNeg (((5 : Int32) * (gI M50 34)) + (gA M50 5 (Int32.toNatClampNeg (gI M50 34))))) (-1 : Int32)) fun M72 =>
    if (gI M72 8) = 0 then
      if oob (gI M72 34) 2 then none else
      if oob (gI M72 34) 2 then none else
      some (sA M72 5 (Int32.toNatClampNeg (gI M72 34)) ((gA M72 5 (Int32.toNatClampNeg (gI M72 34))) + (1 : Int32)))
    else
      some M72
def fX12_cornering (n0 : Nat) (M : Mem) : Option (Mem) :=
  if oob (gI M 34) 2 then none else
  if (gA M 5 (Int32.toNatClampNeg (gI M 34))) = (5 : Int32) then
    fX12_cornering_19 n0 (1 : Int32) M
  else
    fX12_cornering_19 n0 (0 : Int32) M
theorem tfX12_cornering_19 (n0 : Nat) (hO : OKc p (rmL 4) s m args meth c LY D cy ad cX12_cornering RX12 1 4 none) (u1 : Int32) (M : Mem) : BL p l e (rmL 4) s m args below meth c LY D cy ad 1 (QV LY D cy ad) 19 [(0, .ref (ad 0))] [.int u1, .ref (ad 0)] M (fX12_cornering_19 n0 u1 M) := by
  unfold fX12_cornering_19
  refine b_callVI hO mdX12_counts mvX12_counts w1504 (ci := 12) rfl rfl (by decide) kLY_0 (As := [.int _]) (st := []) (ctX12_counts n0 hO.2.2.2.2.2.2.1 _ _) (Nat.le_of_ble_eq_true rfl) rfl rfl (Nat.le_of_ble_eq_true rfl) dX12_cornering_19 (fun z19 => ?_)
  refine b_if_ne hO dX12_cornering_22 (tgt := 26) (by decide) ?_ ?_
  · refine b_aload_n hO dX12_cornering_26 0 rfl rfl ?_
    refine b_get hO flX12_106 kLY_0 (v := .ref (ad 19)) rfl dX12_cornering_27 ?_
    refine b_iconst hO dX12_cornering_30 ic_i_5 ?_
    refine b_aload_n hO dX12_cornering_31 0 rfl rfl ?_
    refine b_get hO flX12_115 kLY_0 (v := .int (gI _ 34)) rfl dX12_cornering_32 ?_
    refine b_imul hO dX12_cornering_35 ?_
    refine b_aload_n hO dX12_cornering_36 0 rfl rfl ?_
    refine b_get hO flX12_63 kLY_0 (v := .ref (ad 5)) rfl dX12_cornering_37 ?_
    refine b_aload_n hO dX12_cornering_40 0 rfl rfl ?_
    refine b_get hO flX12_115 kLY_0 (v := .int (gI _ 34)) rfl dX12_cornering_41 ?_
    refine b_iald hO kLY_5 (n := 2) rfl dX12_cornering_44 ?_
    refine b_iadd hO dX12_cornering_45 ?_
    refine b_aload_n hO dX12_cornering_46 0 rfl rfl ?_
    refine b_callVL hO mdX12_fresh mvX12_fresh w1508 (ci := 12) rfl rfl (by decide) kLY_0 (As := []) (st := [.int _, .ref _]) (ctX12_fresh n0 hO.2.2.2.2.2.2.1 _) (Nat.le_of_ble_eq_true rfl) rfl rfl (Nat.le_of_ble_eq_true rfl) dX12_cornering_47 (fun z47 => ?_)
    refine b_last hO kLY_19 (n := 10) rfl dX12_cornering_50 ?_
    refine b_bnd (fun M50 => ?_)
    refine b_aload_n hO dX12_cornering_51 0 rfl rfl ?_
    refine b_get hO flX12_66 kLY_0 (v := .ref (ad 6)) rfl dX12_cornering_52 ?_
    refine b_iconst hO dX12_cornering_55 ic_i_5 ?_
    refine b_aload_n hO dX12_cornering_56 0 rfl rfl ?_
    refine b_get hO flX12_115 kLY_0 (v := .int (gI _ 34)) rfl dX12_cornering_57 ?_
    refine b_imul hO dX12_cornering_60 ?_
    refine b_aload_n hO dX12_cornering_61 0 rfl rfl ?_
    refine b_get hO flX12_63 kLY_0 (v := .ref (ad 5)) rfl dX12_cornering_62 ?_
    refine b_aload_n hO dX12_cornering_65 0 rfl rfl ?_
    refine b_get hO flX12_115 kLY_0 (v := .int (gI _ 34)) rfl dX12_cornering_66 ?_
    refine b_iald hO kLY_5 (n := 2) rfl dX12_cornering_69 ?_
    refine b_iadd hO dX12_cornering_70 ?_
    refine b_iconst hO dX12_cornering_71 ic_i_m1 ?_
    refine b_iast hO kLY_6 (n := 10) rfl dX12_cornering_72 ?_
    refine b_bnd (fun M72 => ?_)
    refine b_aload_n hO dX12_cornering_73 0 rfl rfl ?_
    refine b_get hO flX12_36 kLY_0 (v := .int (gI _ 8)) rfl dX12_cornering_74 ?_
    refine b_if_ne hO dX12_cornering_77 (tgt := 93) (by decide) ?_ ?_
    · exact b_vret hO dX12_cornering_93
    · refine b_aload_n hO dX12_cornering_80 0 rfl rfl ?_
      refine b_get hO flX12_63 kLY_0 (v := .ref (ad 5)) rfl dX12_cornering_81 ?_
      refine b_aload_n hO dX12_cornering_84 0 rfl rfl ?_
      refine b_get hO flX12_115 kLY_0 (v := .int (gI _ 34)) rfl dX12_cornering_85 ?_
      refine b_dup2 hO dX12_cornering_88 rfl rfl ?_
      refine b_iald hO kLY_5 (n := 2) rfl dX12_cornering_89 ?_
      refine b_iconst hO dX12_cornering_90 ic_i_1 ?_
      refine b_iadd hO dX12_cornering_91 ?_
      refine b_iast hO kLY_5 (n := 2) rfl dX12_cornering_92 ?_
      exact b_vret hO dX12_cornering_93
  · exact b_vret hO dX12_cornering_25
theorem tfX12_cornering (n0 : Nat) (hO : OKc p (rmL 4) s m args meth c LY D cy ad cX12_cornering RX12 1 4 none) (M : Mem) : BL p l e (rmL 4) s m args below meth c LY D cy ad 1 (QV LY D cy ad) 0 [(0, .ref (ad 0))] [] M (fX12_cornering n0 M) := by
  unfold fX12_cornering
  refine b_aload_n hO dX12_cornering_0 0 rfl rfl ?_
  refine b_aload_n hO dX12_cornering_1 0 rfl rfl ?_
  refine b_get hO flX12_63 kLY_0 (v := .ref (ad 5)) rfl dX12_cornering_2 ?_
  refine b_aload_n hO dX12_cornering_5 0 rfl rfl ?_
  refine b_get hO flX12_115 kLY_0 (v := .int (gI _ 34)) rfl dX12_cornering_6 ?_
  refine b_iald hO kLY_5 (n := 2) rfl dX12_cornering_9 ?_
  refine b_iconst hO dX12_cornering_10 ic_i_5 ?_
  refine b_icmp_ne hO dX12_cornering_11 (tgt := 18) (by decide) ?_ ?_
  · refine b_iconst hO dX12_cornering_18 ic_i_0 ?_
    exact tfX12_cornering_19 n0 hO _ _
  · refine b_iconst hO dX12_cornering_14 ic_i_1 ?_
    refine b_goto hO dX12_cornering_15 (tgt := 19) (by decide) ?_
    exact tfX12_cornering_19 n0 hO _ _
theorem ctX12_cornering (n0 : Nat) (hI : Inj LY ad) (M : Mem) : CT l LY D cy ad yX12_cornering cX12_cornering 1 none 4 (QV LY D cy ad) [.ref (ad 0)] M (fX12_cornering n0 M) :=
  CT.mk LYok hI (by decide) (Nat.le_of_ble_eq_true rfl) (fun hO => tfX12_cornering n0 hO M)
end
end
section
section
variable {p : Program} {l : Launch} {e : Env} {s : State} {m : MethodId} {args : Array Value} {below : List Frame} {meth : Method} {c : Code} {D : va_G} {cy : Nat → ClassId} {ad : Nat → Nat} {dd : Nat}

/-! X12_roading -/
def fX12_roading_78 (n0 : Nat) (k47 : Int32 → Int32 → Int32 → Mem → Option (Mem)) (x1 : Int32) (x3 : Int32) (u0 : Int32) (u1 : Int32) (M : Mem) : Option (Mem) :=
  bnd (u0 ||| u1) fun x2_79 =>
  k47 x1 x2_79 (x3 + (1 : Int32)) M
def bX12_roading_47 (n0 : Nat) (k47 : Int32 → Int32 → Int32 → Mem → Option (Mem)) (x1 : Int32) (x2 : Int32) (x3 : Int32) (M : Mem) : Option (Mem) :=
  if (5 : Int32) ≤ x3 then
    (fX12_knownBut n0 (1 : Int32) x2 M).bind fun z89 =>
    (fX12_must_ n0 (495874044019 : Int64) z89.2).bind fun z97 =>
    (fX12_number n0 (1 : Int32) (30 : Int32) z97).bind fun z104 =>
    if (gI z104.2 8) ≤ 0 then
      (fX12_at n0 (gI z104.2 34) x1 z89.1 z104.2).bind fun z128 =>
      if oob z128.1 50 then none else
      bnd (sA z128.2 8 (Int32.toNatClampNeg z128.1) z104.1) fun M133 =>
      (fX12_at n0 (gI M133 34) z89.1 x1 M133).bind fun z145 =>
      if oob z145.1 50 then none else
      bnd (sA z145.2 8 (Int32.toNatClampNeg z145.1) z104.1) fun M150 =>
      if oob (gI M150 34) 2 then none else
      if oob (gI M150 34) 2 then none else
      some (sA M150 7 (Int32.toNatClampNeg (gI M150 34)) ((gA M150 7 (Int32.toNatClampNeg (gI M150 34))) + (1 : Int32)))
    else
      some z104.2
  else
    (fX12_at n0 (gI M 34) x1 x3 M).bind fun z64 =>
    if oob z64.1 50 then none else
    if (gA z64.2 8 (Int32.toNatClampNeg z64.1)) ≤ 0 then
      fX12_roading_78 n0 k47 x1 x3 x2 (0 : Int32) z64.2
    else
      fX12_roading_78 n0 k47 x1 x3 x2 ((1 : Int32) <<< (x3 &&& 31)) z64.2
def fX12_roading_47 (n0 : Nat) : Int32 → Int32 → Int32 → Mem → Option (Mem) := loopN (bX12_roading_47 n0) (fun _ _ _ _ => none) n0
def fX12_roading_20 (n0 : Nat) (u1 : Int32) (M : Mem) : Option (Mem) :=
  (fX12_counts n0 u1 M).bind fun z20 =>
  if z20.1 = 0 then
    some z20.2
  else
    (fX12_knownBut n0 (1 : Int32) (0 : Int32) z20.2).bind fun z30 =>
    (fX12_must_ n0 (29807 : Int64) z30.2).bind fun z38 =>
    bnd ((1 : Int32) <<< (z30.1 &&& 31)) fun x2_44 =>
    fX12_roading_47 n0 z30.1 x2_44 (0 : Int32) z38
def fX12_roading (n0 : Nat) (M : Mem) : Option (Mem) :=
  if oob (gI M 34) 2 then none else
  if (gA M 7 (Int32.toNatClampNeg (gI M 34))) = (10 : Int32) then
    fX12_roading_20 n0 (1 : Int32) M
  else
    fX12_roading_20 n0 (0 : Int32) M
theorem tfX12_roading_78 (n0 : Nat) (hO : OKc p (rmL 4) s m args meth c LY D cy ad cX12_roading RX12 5 4 none) (k47 : Int32 → Int32 → Int32 → Mem → Option (Mem)) (hk47 : ∀ (x1 : Int32) (x2 : Int32) (x3 : Int32) (M : Mem), BL p l e (rmL 4) s m args below meth c LY D cy ad 5 (QV LY D cy ad) 47 [(0, .ref (ad 0)), (1, .int x1), (2, .int x2), (3, .int x3)] [] M (k47 x1 x2 x3 M)) (x1 : Int32) (x3 : Int32) (u0 : Int32) (u1 : Int32) (M : Mem) : BL p l e (rmL 4) s m args below meth c LY D cy ad 5 (QV LY D cy ad) 78 [(0, .ref (ad 0)), (1, .int x1), (3, .int x3)] [.int u1, .int u0] M (fX12_roading_78 n0 k47 x1 x3 u0 u1 M) := by
  unfold fX12_roading_78
  refine b_ior hO dX12_roading_78 ?_
  refine b_topI (fun x2_79 => ?_)
  refine b_istore_n hO dX12_roading_79 rfl (by decide) (lv' := [(2, .int _), (0, .ref _), (1, .int _), (3, .int _)]) rfl ?_
  refine b_iinc hO dX12_roading_80 3 rfl ic_i_1 (by decide) (lv' := [(3, .int _), (2, .int _), (0, .ref _), (1, .int _)]) rfl ?_
  refine b_goto hO dX12_roading_83 (tgt := 47) (by decide) ?_
  refine b_sub [2, 3, 1, 0] rfl ?_
  exact hk47 _ _ _ _
theorem tbX12_roading_47 (n0 : Nat) (hO : OKc p (rmL 4) s m args meth c LY D cy ad cX12_roading RX12 5 4 none) (k47 : Int32 → Int32 → Int32 → Mem → Option (Mem)) (hk47 : ∀ (x1 : Int32) (x2 : Int32) (x3 : Int32) (M : Mem), BL p l e (rmL 4) s m args below meth c LY D cy ad 5 (QV LY D cy ad) 47 [(0, .ref (ad 0)), (1, .int x1), (2, .int x2), (3, .int x3)] [] M (k47 x1 x2 x3 M)) (x1 : Int32) (x2 : Int32) (x3 : Int32) (M : Mem) : BL p l e (rmL 4) s m args below meth c LY D cy ad 5 (QV LY D cy ad) 47 [(0, .ref (ad 0)), (1, .int x1), (2, .int x2), (3, .int x3)] [] M (bX12_roading_47 n0 k47 x1 x2 x3 M) := by
  unfold bX12_roading_47
  refine b_iload_n hO dX12_roading_47 3 rfl rfl ?_
  refine b_iconst hO dX12_roading_48 ic_i_5 ?_
  refine b_icmp_ge hO dX12_roading_49 (tgt := 86) (by decide) ?_ ?_
  · refine b_aload_n hO dX12_roading_86 0 rfl rfl ?_
    refine b_iconst hO dX12_roading_87 ic_i_1 ?_
    refine b_iload_n hO dX12_roading_88 2 rfl rfl ?_
    refine b_callVI hO mdX12_knownBut mvX12_knownBut w1571 (ci := 12) rfl rfl (by decide) kLY_0 (As := [.int _, .int _]) (st := []) (ctX12_knownBut n0 hO.2.2.2.2.2.2.1 _ _ _) (Nat.le_of_ble_eq_true rfl) rfl rfl (Nat.le_of_ble_eq_true rfl) dX12_roading_89 (fun z89 => ?_)
    refine b_istore_n hO dX12_roading_92 rfl (by decide) (lv' := [(3, .int _), (0, .ref _), (1, .int _), (2, .int _)]) rfl ?_
    refine b_aload_n hO dX12_roading_93 1 rfl rfl ?_
    refine b_ldc2 hO w1521 dX12_roading_94 ?_
    refine b_callVV hO mdX12_must_ mvX12_must_ w1552 (ci := 12) rfl rfl (by decide) kLY_0 (As := [.long _]) (st := []) (ctX12_must_ n0 hO.2.2.2.2.2.2.1 _ _) (Nat.le_of_ble_eq_true rfl) rfl rfl (Nat.le_of_ble_eq_true rfl) dX12_roading_97 (fun z97 => ?_)
    refine b_aload_n hO dX12_roading_100 1 rfl rfl ?_
    refine b_iconst hO dX12_roading_101 ic_i_1 ?_
    refine b_bipush hO dX12_roading_102 ic_b_30 ?_
    refine b_callVI hO mdX12_number mvX12_number w1556 (ci := 12) rfl rfl (by decide) kLY_0 (As := [.int _, .int _]) (st := []) (ctX12_number n0 hO.2.2.2.2.2.2.1 _ _ _) (Nat.le_of_ble_eq_true rfl) rfl rfl (Nat.le_of_ble_eq_true rfl) dX12_roading_104 (fun z104 => ?_)
    refine b_istore hO dX12_roading_107 (by decide) (lv' := [(4, .int _), (3, .int _), (0, .ref _), (1, .int _), (2, .int _)]) rfl ?_
    refine b_aload_n hO dX12_roading_109 2 rfl rfl ?_
    refine b_get hO flX12_36 kLY_0 (v := .int (gI _ 8)) rfl dX12_roading_110 ?_
    refine b_if_le hO dX12_roading_113 (tgt := 117) (by decide) ?_ ?_
    · refine b_aload_n hO dX12_roading_117 2 rfl rfl ?_
      refine b_get hO flX12_72 kLY_0 (v := .ref (ad 8)) rfl dX12_roading_118 ?_
      refine b_aload_n hO dX12_roading_121 2 rfl rfl ?_
      refine b_aload_n hO dX12_roading_122 2 rfl rfl ?_
      refine b_get hO flX12_115 kLY_0 (v := .int (gI _ 34)) rfl dX12_roading_123 ?_
      refine b_iload_n hO dX12_roading_126 3 rfl rfl ?_
      refine b_iload_n hO dX12_roading_127 1 rfl rfl ?_
      refine b_callVI hO mdX12_at mvX12_at w1469 (ci := 12) rfl rfl (by decide) kLY_0 (As := [.int _, .int _, .int _]) (st := [.ref _]) (ctX12_at n0 hO.2.2.2.2.2.2.1 _ _ _ _) (Nat.le_of_ble_eq_true rfl) rfl rfl (Nat.le_of_ble_eq_true rfl) dX12_roading_128 (fun z128 => ?_)
      refine b_iload hO dX12_roading_131 0 rfl ?_
      refine b_iast hO kLY_8 (n := 50) rfl dX12_roading_133 ?_
      refine b_bnd (fun M133 => ?_)
      refine b_aload_n hO dX12_roading_134 2 rfl rfl ?_
      refine b_get hO flX12_72 kLY_0 (v := .ref (ad 8)) rfl dX12_roading_135 ?_
      refine b_aload_n hO dX12_roading_138 2 rfl rfl ?_
      refine b_aload_n hO dX12_roading_139 2 rfl rfl ?_
      refine b_get hO flX12_115 kLY_0 (v := .int (gI _ 34)) rfl dX12_roading_140 ?_
      refine b_iload_n hO dX12_roading_143 1 rfl rfl ?_
      refine b_iload_n hO dX12_roading_144 3 rfl rfl ?_
      refine b_callVI hO mdX12_at mvX12_at w1469 (ci := 12) rfl rfl (by decide) kLY_0 (As := [.int _, .int _, .int _]) (st := [.ref _]) (ctX12_at n0 hO.2.2.2.2.2.2.1 _ _ _ _) (Nat.le_of_ble_eq_true rfl) rfl rfl (Nat.le_of_ble_eq_true rfl) dX12_roading_145 (fun z145 => ?_)
      refine b_iload hO dX12_roading_148 0 rfl ?_
      refine b_iast hO kLY_8 (n := 50) rfl dX12_roading_150 ?_
      refine b_bnd (fun M150 => ?_)
      refine b_aload_n hO dX12_roading_151 2 rfl rfl ?_
      refine b_get hO flX12_69 kLY_0 (v := .ref (ad 7)) rfl dX12_roading_152 ?_
      refine b_aload_n hO dX12_roading_155 2 rfl rfl ?_
      refine b_get hO flX12_115 kLY_0 (v := .int (gI _ 34)) rfl dX12_roading_156 ?_
      refine b_dup2 hO dX12_roading_159 rfl rfl ?_
      refine b_iald hO kLY_7 (n := 2) rfl dX12_roading_160 ?_
      refine b_iconst hO dX12_roading_161 ic_i_1 ?_
      refine b_iadd hO dX12_roading_162 ?_
      refine b_iast hO kLY_7 (n := 2) rfl dX12_roading_163 ?_
      exact b_vret hO dX12_roading_164
    · exact b_vret hO dX12_roading_116
  · refine b_iload_n hO dX12_roading_52 2 rfl rfl ?_
    refine b_aload_n hO dX12_roading_53 0 rfl rfl ?_
    refine b_get hO flX12_72 kLY_0 (v := .ref (ad 8)) rfl dX12_roading_54 ?_
    refine b_aload_n hO dX12_roading_57 0 rfl rfl ?_
    refine b_aload_n hO dX12_roading_58 0 rfl rfl ?_
    refine b_get hO flX12_115 kLY_0 (v := .int (gI _ 34)) rfl dX12_roading_59 ?_
    refine b_iload_n hO dX12_roading_62 1 rfl rfl ?_
    refine b_iload_n hO dX12_roading_63 3 rfl rfl ?_
    refine b_callVI hO mdX12_at mvX12_at w1469 (ci := 12) rfl rfl (by decide) kLY_0 (As := [.int _, .int _, .int _]) (st := [.ref _, .int _]) (ctX12_at n0 hO.2.2.2.2.2.2.1 _ _ _ _) (Nat.le_of_ble_eq_true rfl) rfl rfl (Nat.le_of_ble_eq_true rfl) dX12_roading_64 (fun z64 => ?_)
    refine b_iald hO kLY_8 (n := 50) rfl dX12_roading_67 ?_
    refine b_if_le hO dX12_roading_68 (tgt := 77) (by decide) ?_ ?_
    · refine b_iconst hO dX12_roading_77 ic_i_0 ?_
      refine b_sub [0, 1, 3] rfl ?_
      exact tfX12_roading_78 n0 hO k47 hk47 _ _ _ _ _
    · refine b_iconst hO dX12_roading_71 ic_i_1 ?_
      refine b_iload_n hO dX12_roading_72 3 rfl rfl ?_
      refine b_ishl hO dX12_roading_73 ?_
      refine b_goto hO dX12_roading_74 (tgt := 78) (by decide) ?_
      refine b_sub [0, 1, 3] rfl ?_
      exact tfX12_roading_78 n0 hO k47 hk47 _ _ _ _ _
theorem lX12_roading_47 (n0 : Nat) (hO : OKc p (rmL 4) s m args meth c LY D cy ad cX12_roading RX12 5 4 none) : ∀ (w : Nat) (x1 : Int32) (x2 : Int32) (x3 : Int32) (M : Mem), BL p l e (rmL 4) s m args below meth c LY D cy ad 5 (QV LY D cy ad) 47 [(0, .ref (ad 0)), (1, .int x1), (2, .int x2), (3, .int x3)] [] M (loopN (bX12_roading_47 n0) (fun _ _ _ _ => none) w x1 x2 x3 M) := by
  intro w
  induction w with
  | zero =>
    intros
    exact b_none
  | succ w ih =>
    intro x1 x2 x3 M
    exact tbX12_roading_47 n0 hO _ ih x1 x2 x3 M
theorem tfX12_roading_47 (n0 : Nat) (hO : OKc p (rmL 4) s m args meth c LY D cy ad cX12_roading RX12 5 4 none) (x1 : Int32) (x2 : Int32) (x3 : Int32) (M : Mem) : BL p l e (rmL 4) s m args below meth c LY D cy ad 5 (QV LY D cy ad) 47 [(0, .ref (ad 0)), (1, .int x1), (2, .int x2), (3, .int x3)] [] M (fX12_roading_47 n0 x1 x2 x3 M) := lX12_roading_47 n0 hO n0 x1 x2 x3 M
theorem tfX12_roading_20 (n0 : Nat) (hO : OKc p (rmL 4) s m args meth c LY D cy ad cX12_roading RX12 5 4 none) (u1 : Int32) (M : Mem) : BL p l e (rmL 4) s m args below meth c LY D cy ad 5 (QV LY D cy ad) 20 [(0, .ref (ad 0))] [.int u1, .ref (ad 0)] M (fX12_roading_20 n0 u1 M) := by
  unfold fX12_roading_20
  refine b_callVI hO mdX12_counts mvX12_counts w1504 (ci := 12) rfl rfl (by decide) kLY_0 (As := [.int _]) (st := []) (ctX12_counts n0 hO.2.2.2.2.2.2.1 _ _) (Nat.le_of_ble_eq_true rfl) rfl rfl (Nat.le_of_ble_eq_true rfl) dX12_roading_20 (fun z20 => ?_)
  refine b_if_ne hO dX12_roading_23 (tgt := 27) (by decide) ?_ ?_
  · refine b_aload_n hO dX12_roading_27 0 rfl rfl ?_
    refine b_iconst hO dX12_roading_28 ic_i_1 ?_
    refine b_iconst hO dX12_roading_29 ic_i_0 ?_
    refine b_callVI hO mdX12_knownBut mvX12_knownBut w1571 (ci := 12) rfl rfl (by decide) kLY_0 (As := [.int _, .int _]) (st := []) (ctX12_knownBut n0 hO.2.2.2.2.2.2.1 _ _ _) (Nat.le_of_ble_eq_true rfl) rfl rfl (Nat.le_of_ble_eq_true rfl) dX12_roading_30 (fun z30 => ?_)
    refine b_istore_n hO dX12_roading_33 rfl (by decide) (lv' := [(1, .int _), (0, .ref _)]) rfl ?_
    refine b_aload_n hO dX12_roading_34 1 rfl rfl ?_
    refine b_ldc2 hO w1520 dX12_roading_35 ?_
    refine b_callVV hO mdX12_must_ mvX12_must_ w1552 (ci := 12) rfl rfl (by decide) kLY_0 (As := [.long _]) (st := []) (ctX12_must_ n0 hO.2.2.2.2.2.2.1 _ _) (Nat.le_of_ble_eq_true rfl) rfl rfl (Nat.le_of_ble_eq_true rfl) dX12_roading_38 (fun z38 => ?_)
    refine b_iconst hO dX12_roading_41 ic_i_1 ?_
    refine b_iload_n hO dX12_roading_42 0 rfl rfl ?_
    refine b_ishl hO dX12_roading_43 ?_
    refine b_topI (fun x2_44 => ?_)
    refine b_istore_n hO dX12_roading_44 rfl (by decide) (lv' := [(2, .int _), (1, .int _), (0, .ref _)]) rfl ?_
    refine b_iconst hO dX12_roading_45 ic_i_0 ?_
    refine b_istore_n hO dX12_roading_46 rfl (by decide) (lv' := [(3, .int _), (2, .int _), (1, .int _), (0, .ref _)]) rfl ?_
    refine b_sub [3, 2, 1, 0] rfl ?_
    exact tfX12_roading_47 n0 hO _ _ _ _
  · exact b_vret hO dX12_roading_26
theorem tfX12_roading (n0 : Nat) (hO : OKc p (rmL 4) s m args meth c LY D cy ad cX12_roading RX12 5 4 none) (M : Mem) : BL p l e (rmL 4) s m args below meth c LY D cy ad 5 (QV LY D cy ad) 0 [(0, .ref (ad 0))] [] M (fX12_roading n0 M) := by
  unfold fX12_roading
  refine b_aload_n hO dX12_roading_0 0 rfl rfl ?_
  refine b_aload_n hO dX12_roading_1 0 rfl rfl ?_
  refine b_get hO flX12_69 kLY_0 (v := .ref (ad 7)) rfl dX12_roading_2 ?_
  refine b_aload_n hO dX12_roading_5 0 rfl rfl ?_
  refine b_get hO flX12_115 kLY_0 (v := .int (gI _ 34)) rfl dX12_roading_6 ?_
  refine b_iald hO kLY_7 (n := 2) rfl dX12_roading_9 ?_
  refine b_bipush hO dX12_roading_10 ic_b_10 ?_
  refine b_icmp_ne hO dX12_roading_12 (tgt := 19) (by decide) ?_ ?_
  · refine b_iconst hO dX12_roading_19 ic_i_0 ?_
    exact tfX12_roading_20 n0 hO _ _
  · refine b_iconst hO dX12_roading_15 ic_i_1 ?_
    refine b_goto hO dX12_roading_16 (tgt := 20) (by decide) ?_
    exact tfX12_roading_20 n0 hO _ _
theorem ctX12_roading (n0 : Nat) (hI : Inj LY ad) (M : Mem) : CT l LY D cy ad yX12_roading cX12_roading 5 none 4 (QV LY D cy ad) [.ref (ad 0)] M (fX12_roading n0 M) :=
  CT.mk LYok hI (by decide) (Nat.le_of_ble_eq_true rfl) (fun hO => tfX12_roading n0 hO M)
/-! X12_palming -/
def fX12_palming_51 (n0 : Nat) (k13 : Int32 → Int32 → Mem → Option (Mem)) (x2 : Int32) (u0 : Int32) (u1 : Int32) (M : Mem) : Option (Mem) :=
  bnd (u0 ||| u1) fun x1_52 =>
  k13 x1_52 (x2 + (1 : Int32)) M
def bX12_palming_13 (n0 : Nat) (k13 : Int32 → Int32 → Mem → Option (Mem)) (x1 : Int32) (x2 : Int32) (M : Mem) : Option (Mem) :=
  if oob (gI M 34) 2 then none else
  if (gA M 5 (Int32.toNatClampNeg (gI M 34))) ≤ x2 then
    (fX12_knownBut n0 (1 : Int32) x1 M).bind fun z62 =>
    (fX12_must_ n0 (6840691 : Int64) z62.2).bind fun z70 =>
    (fX12_knownBut n0 (0 : Int32) (0 : Int32) z70).bind fun z76 =>
    if (gI z76.2 8) = 0 then
      if oob (((5 : Int32) * (gI z76.2 34)) + z62.1) 10 then none else
      some (sA z76.2 6 (Int32.toNatClampNeg (((5 : Int32) * (gI z76.2 34)) + z62.1)) z76.1)
    else
      some z76.2
  else
    if oob (((5 : Int32) * (gI M 34)) + x2) 10 then none else
    if (gA M 6 (Int32.toNatClampNeg (((5 : Int32) * (gI M 34)) + x2))) = (-1 : Int32) then
      fX12_palming_51 n0 k13 x2 x1 (0 : Int32) M
    else
      fX12_palming_51 n0 k13 x2 x1 ((1 : Int32) <<< (x2 &&& 31)) M
def fX12_palming_13 (n0 : Nat) : Int32 → Int32 → Mem → Option (Mem) := loopN (bX12_palming_13 n0) (fun _ _ _ => none) n0
def fX12_palming (n0 : Nat) (M : Mem) : Option (Mem) :=
  (fX12_counts n0 (0 : Int32) M).bind fun z2 =>
  if z2.1 = 0 then
    some z2.2
  else
    fX12_palming_13 n0 (0 : Int32) (0 : Int32) z2.2
theorem tfX12_palming_51 (n0 : Nat) (hO : OKc p (rmL 4) s m args meth c LY D cy ad cX12_palming RX12 4 4 none) (k13 : Int32 → Int32 → Mem → Option (Mem)) (hk13 : ∀ (x1 : Int32) (x2 : Int32) (M : Mem), BL p l e (rmL 4) s m args below meth c LY D cy ad 4 (QV LY D cy ad) 13 [(0, .ref (ad 0)), (1, .int x1), (2, .int x2)] [] M (k13 x1 x2 M)) (x2 : Int32) (u0 : Int32) (u1 : Int32) (M : Mem) : BL p l e (rmL 4) s m args below meth c LY D cy ad 4 (QV LY D cy ad) 51 [(0, .ref (ad 0)), (2, .int x2)] [.int u1, .int u0] M (fX12_palming_51 n0 k13 x2 u0 u1 M) := by
  unfold fX12_palming_51
  refine b_ior hO dX12_palming_51 ?_
  refine b_topI (fun x1_52 => ?_)
  refine b_istore_n hO dX12_palming_52 rfl (by decide) (lv' := [(1, .int _), (0, .ref _), (2, .int _)]) rfl ?_
  refine b_iinc hO dX12_palming_53 2 rfl ic_i_1 (by decide) (lv' := [(2, .int _), (1, .int _), (0, .ref _)]) rfl ?_
  refine b_goto hO dX12_palming_56 (tgt := 13) (by decide) ?_
  refine b_sub [2, 1, 0] rfl ?_
  exact hk13 _ _ _
theorem tbX12_palming_13 (n0 : Nat) (hO : OKc p (rmL 4) s m args meth c LY D cy ad cX12_palming RX12 4 4 none) (k13 : Int32 → Int32 → Mem → Option (Mem)) (hk13 : ∀ (x1 : Int32) (x2 : Int32) (M : Mem), BL p l e (rmL 4) s m args below meth c LY D cy ad 4 (QV LY D cy ad) 13 [(0, .ref (ad 0)), (1, .int x1), (2, .int x2)] [] M (k13 x1 x2 M)) (x1 : Int32) (x2 : Int32) (M : Mem) : BL p l e (rmL 4) s m args below meth c LY D cy ad 4 (QV LY D cy ad) 13 [(0, .ref (ad 0)), (1, .int x1), (2, .int x2)] [] M (bX12_palming_13 n0 k13 x1 x2 M) := by
  unfold bX12_palming_13
  refine b_iload_n hO dX12_palming_13 2 rfl rfl ?_
  refine b_aload_n hO dX12_palming_14 0 rfl rfl ?_
  refine b_get hO flX12_63 kLY_0 (v := .ref (ad 5)) rfl dX12_palming_15 ?_
  refine b_aload_n hO dX12_palming_18 0 rfl rfl ?_
  refine b_get hO flX12_115 kLY_0 (v := .int (gI _ 34)) rfl dX12_palming_19 ?_
  refine b_iald hO kLY_5 (n := 2) rfl dX12_palming_22 ?_
  refine b_icmp_ge hO dX12_palming_23 (tgt := 59) (by decide) ?_ ?_
  · refine b_aload_n hO dX12_palming_59 0 rfl rfl ?_
    refine b_iconst hO dX12_palming_60 ic_i_1 ?_
    refine b_iload_n hO dX12_palming_61 1 rfl rfl ?_
    refine b_callVI hO mdX12_knownBut mvX12_knownBut w1571 (ci := 12) rfl rfl (by decide) kLY_0 (As := [.int _, .int _]) (st := []) (ctX12_knownBut n0 hO.2.2.2.2.2.2.1 _ _ _) (Nat.le_of_ble_eq_true rfl) rfl rfl (Nat.le_of_ble_eq_true rfl) dX12_palming_62 (fun z62 => ?_)
    refine b_istore_n hO dX12_palming_65 rfl (by decide) (lv' := [(2, .int _), (0, .ref _), (1, .int _)]) rfl ?_
    refine b_aload_n hO dX12_palming_66 1 rfl rfl ?_
    refine b_ldc2 hO w1523 dX12_palming_67 ?_
    refine b_callVV hO mdX12_must_ mvX12_must_ w1552 (ci := 12) rfl rfl (by decide) kLY_0 (As := [.long _]) (st := []) (ctX12_must_ n0 hO.2.2.2.2.2.2.1 _ _) (Nat.le_of_ble_eq_true rfl) rfl rfl (Nat.le_of_ble_eq_true rfl) dX12_palming_70 (fun z70 => ?_)
    refine b_aload_n hO dX12_palming_73 1 rfl rfl ?_
    refine b_iconst hO dX12_palming_74 ic_i_0 ?_
    refine b_iconst hO dX12_palming_75 ic_i_0 ?_
    refine b_callVI hO mdX12_knownBut mvX12_knownBut w1571 (ci := 12) rfl rfl (by decide) kLY_0 (As := [.int _, .int _]) (st := []) (ctX12_knownBut n0 hO.2.2.2.2.2.2.1 _ _ _) (Nat.le_of_ble_eq_true rfl) rfl rfl (Nat.le_of_ble_eq_true rfl) dX12_palming_76 (fun z76 => ?_)
    refine b_istore_n hO dX12_palming_79 rfl (by decide) (lv' := [(3, .int _), (2, .int _), (0, .ref _), (1, .int _)]) rfl ?_
    refine b_aload_n hO dX12_palming_80 2 rfl rfl ?_
    refine b_get hO flX12_36 kLY_0 (v := .int (gI _ 8)) rfl dX12_palming_81 ?_
    refine b_if_ne hO dX12_palming_84 (tgt := 101) (by decide) ?_ ?_
    · exact b_vret hO dX12_palming_101
    · refine b_aload_n hO dX12_palming_87 2 rfl rfl ?_
      refine b_get hO flX12_66 kLY_0 (v := .ref (ad 6)) rfl dX12_palming_88 ?_
      refine b_iconst hO dX12_palming_91 ic_i_5 ?_
      refine b_aload_n hO dX12_palming_92 2 rfl rfl ?_
      refine b_get hO flX12_115 kLY_0 (v := .int (gI _ 34)) rfl dX12_palming_93 ?_
      refine b_imul hO dX12_palming_96 ?_
      refine b_iload_n hO dX12_palming_97 1 rfl rfl ?_
      refine b_iadd hO dX12_palming_98 ?_
      refine b_iload_n hO dX12_palming_99 0 rfl rfl ?_
      refine b_iast hO kLY_6 (n := 10) rfl dX12_palming_100 ?_
      exact b_vret hO dX12_palming_101
  · refine b_iload_n hO dX12_palming_26 1 rfl rfl ?_
    refine b_aload_n hO dX12_palming_27 0 rfl rfl ?_
    refine b_get hO flX12_66 kLY_0 (v := .ref (ad 6)) rfl dX12_palming_28 ?_
    refine b_iconst hO dX12_palming_31 ic_i_5 ?_
    refine b_aload_n hO dX12_palming_32 0 rfl rfl ?_
    refine b_get hO flX12_115 kLY_0 (v := .int (gI _ 34)) rfl dX12_palming_33 ?_
    refine b_imul hO dX12_palming_36 ?_
    refine b_iload_n hO dX12_palming_37 2 rfl rfl ?_
    refine b_iadd hO dX12_palming_38 ?_
    refine b_iald hO kLY_6 (n := 10) rfl dX12_palming_39 ?_
    refine b_iconst hO dX12_palming_40 ic_i_m1 ?_
    refine b_icmp_eq hO dX12_palming_41 (tgt := 50) (by decide) ?_ ?_
    · refine b_iconst hO dX12_palming_50 ic_i_0 ?_
      refine b_sub [0, 2] rfl ?_
      exact tfX12_palming_51 n0 hO k13 hk13 _ _ _ _
    · refine b_iconst hO dX12_palming_44 ic_i_1 ?_
      refine b_iload_n hO dX12_palming_45 2 rfl rfl ?_
      refine b_ishl hO dX12_palming_46 ?_
      refine b_goto hO dX12_palming_47 (tgt := 51) (by decide) ?_
      refine b_sub [0, 2] rfl ?_
      exact tfX12_palming_51 n0 hO k13 hk13 _ _ _ _
theorem lX12_palming_13 (n0 : Nat) (hO : OKc p (rmL 4) s m args meth c LY D cy ad cX12_palming RX12 4 4 none) : ∀ (w : Nat) (x1 : Int32) (x2 : Int32) (M : Mem), BL p l e (rmL 4) s m args below meth c LY D cy ad 4 (QV LY D cy ad) 13 [(0, .ref (ad 0)), (1, .int x1), (2, .int x2)] [] M (loopN (bX12_palming_13 n0) (fun _ _ _ => none) w x1 x2 M) := by
  intro w
  induction w with
  | zero =>
    intros
    exact b_none
  | succ w ih =>
    intro x1 x2 M
    exact tbX12_palming_13 n0 hO _ ih x1 x2 M
theorem tfX12_palming_13 (n0 : Nat) (hO : OKc p (rmL 4) s m args meth c LY D cy ad cX12_palming RX12 4 4 none) (x1 : Int32) (x2 : Int32) (M : Mem) : BL p l e (rmL 4) s m args below meth c LY D cy ad 4 (QV LY D cy ad) 13 [(0, .ref (ad 0)), (1, .int x1), (2, .int x2)] [] M (fX12_palming_13 n0 x1 x2 M) := lX12_palming_13 n0 hO n0 x1 x2 M
theorem tfX12_palming (n0 : Nat) (hO : OKc p (rmL 4) s m args meth c LY D cy ad cX12_palming RX12 4 4 none) (M : Mem) : BL p l e (rmL 4) s m args below meth c LY D cy ad 4 (QV LY D cy ad) 0 [(0, .ref (ad 0))] [] M (fX12_palming n0 M) := by
  unfold fX12_palming
  refine b_aload_n hO dX12_palming_0 0 rfl rfl ?_
  refine b_iconst hO dX12_palming_1 ic_i_0 ?_
  refine b_callVI hO mdX12_counts mvX12_counts w1504 (ci := 12) rfl rfl (by decide) kLY_0 (As := [.int _]) (st := []) (ctX12_counts n0 hO.2.2.2.2.2.2.1 _ _) (Nat.le_of_ble_eq_true rfl) rfl rfl (Nat.le_of_ble_eq_true rfl) dX12_palming_2 (fun z2 => ?_)
  refine b_if_ne hO dX12_palming_5 (tgt := 9) (by decide) ?_ ?_
  · refine b_iconst hO dX12_palming_9 ic_i_0 ?_
    refine b_istore_n hO dX12_palming_10 rfl (by decide) (lv' := [(1, .int _), (0, .ref _)]) rfl ?_
    refine b_iconst hO dX12_palming_11 ic_i_0 ?_
    refine b_istore_n hO dX12_palming_12 rfl (by decide) (lv' := [(2, .int _), (1, .int _), (0, .ref _)]) rfl ?_
    refine b_sub [2, 1, 0] rfl ?_
    exact tfX12_palming_13 n0 hO _ _ _
  · exact b_vret hO dX12_palming_8
theorem ctX12_palming (n0 : Nat) (hI : Inj LY ad) (M : Mem) : CT l LY D cy ad yX12_palming cX12_palming 4 none 4 (QV LY D cy ad) [.ref (ad 0)] M (fX12_palming n0 M) :=
  CT.mk LYok hI (by decide) (Nat.le_of_ble_eq_true rfl) (fun hO => tfX12_palming n0 hO M)
/-! X12_doings -/
def fX12_doings_20 (n0 : Nat) (u1 : Int32) (M : Mem) : Option (Mem) :=
  (fX12_counts n0 u1 M).bind fun z20 =>
  if z20.1 = 0 then
    some z20.2
  else
    if oob (gI z20.2 34) 2 then none else
    bnd (((6 : Int32) * (gI z20.2 34)) + (gA z20.2 10 (Int32.toNatClampNeg (gI z20.2 34)))) fun x1_44 =>
    (fX12_fresh n0 z20.2).bind fun z51 =>
    if oob x1_44 12 then none else
    bnd (sB z51.2 20 (Int32.toNatClampNeg x1_44) z51.1) fun M54 =>
    (fX12_must_ n0 (24948 : Int64) M54).bind fun z59 =>
    (fX12_knownBut n0 (1 : Int32) (0 : Int32) z59).bind fun z70 =>
    if oob x1_44 12 then none else
    bnd (sA z70.2 11 (Int32.toNatClampNeg x1_44) z70.1) fun M73 =>
    (fX12_must_ n0 (1752135026 : Int64) M73).bind fun z78 =>
    (fX12_number n0 (0 : Int32) (23 : Int32) z78).bind fun z90 =>
    if oob x1_44 12 then none else
    bnd (sA z90.2 12 (Int32.toNatClampNeg x1_44) z90.1) fun M93 =>
    if (gI M93 8) = 0 then
      if oob (gI M93 34) 2 then none else
      if oob (gI M93 34) 2 then none else
      some (sA M93 10 (Int32.toNatClampNeg (gI M93 34)) ((gA M93 10 (Int32.toNatClampNeg (gI M93 34))) + (1 : Int32)))
    else
      some M93
def fX12_doings (n0 : Nat) (M : Mem) : Option (Mem) :=
  if oob (gI M 34) 2 then none else
  if (gA M 10 (Int32.toNatClampNeg (gI M 34))) = (6 : Int32) then
    fX12_doings_20 n0 (1 : Int32) M
  else
    fX12_doings_20 n0 (0 : Int32) M
theorem tfX12_doings_20 (n0 : Nat) (hO : OKc p (rmL 4) s m args meth c LY D cy ad cX12_doings RX12 2 4 none) (u1 : Int32) (M : Mem) : BL p l e (rmL 4) s m args below meth c LY D cy ad 2 (QV LY D cy ad) 20 [(0, .ref (ad 0))] [.int u1, .ref (ad 0)] M (fX12_doings_20 n0 u1 M) := by
  unfold fX12_doings_20
  refine b_callVI hO mdX12_counts mvX12_counts w1504 (ci := 12) rfl rfl (by decide) kLY_0 (As := [.int _]) (st := []) (ctX12_counts n0 hO.2.2.2.2.2.2.1 _ _) (Nat.le_of_ble_eq_true rfl) rfl rfl (Nat.le_of_ble_eq_true rfl) dX12_doings_20 (fun z20 => ?_)
  refine b_if_ne hO dX12_doings_23 (tgt := 27) (by decide) ?_ ?_
  · refine b_bipush hO dX12_doings_27 ic_b_6 ?_
    refine b_aload_n hO dX12_doings_29 0 rfl rfl ?_
    refine b_get hO flX12_115 kLY_0 (v := .int (gI _ 34)) rfl dX12_doings_30 ?_
    refine b_imul hO dX12_doings_33 ?_
    refine b_aload_n hO dX12_doings_34 0 rfl rfl ?_
    refine b_get hO flX12_78 kLY_0 (v := .ref (ad 10)) rfl dX12_doings_35 ?_
    refine b_aload_n hO dX12_doings_38 0 rfl rfl ?_
    refine b_get hO flX12_115 kLY_0 (v := .int (gI _ 34)) rfl dX12_doings_39 ?_
    refine b_iald hO kLY_10 (n := 2) rfl dX12_doings_42 ?_
    refine b_iadd hO dX12_doings_43 ?_
    refine b_topI (fun x1_44 => ?_)
    refine b_istore_n hO dX12_doings_44 rfl (by decide) (lv' := [(1, .int _), (0, .ref _)]) rfl ?_
    refine b_aload_n hO dX12_doings_45 1 rfl rfl ?_
    refine b_get hO flX12_109 kLY_0 (v := .ref (ad 20)) rfl dX12_doings_46 ?_
    refine b_iload_n hO dX12_doings_49 0 rfl rfl ?_
    refine b_aload_n hO dX12_doings_50 1 rfl rfl ?_
    refine b_callVL hO mdX12_fresh mvX12_fresh w1508 (ci := 12) rfl rfl (by decide) kLY_0 (As := []) (st := [.int _, .ref _]) (ctX12_fresh n0 hO.2.2.2.2.2.2.1 _) (Nat.le_of_ble_eq_true rfl) rfl rfl (Nat.le_of_ble_eq_true rfl) dX12_doings_51 (fun z51 => ?_)
    refine b_last hO kLY_20 (n := 12) rfl dX12_doings_54 ?_
    refine b_bnd (fun M54 => ?_)
    refine b_aload_n hO dX12_doings_55 1 rfl rfl ?_
    refine b_ldc2 hO w1525 dX12_doings_56 ?_
    refine b_callVV hO mdX12_must_ mvX12_must_ w1552 (ci := 12) rfl rfl (by decide) kLY_0 (As := [.long _]) (st := []) (ctX12_must_ n0 hO.2.2.2.2.2.2.1 _ _) (Nat.le_of_ble_eq_true rfl) rfl rfl (Nat.le_of_ble_eq_true rfl) dX12_doings_59 (fun z59 => ?_)
    refine b_aload_n hO dX12_doings_62 1 rfl rfl ?_
    refine b_get hO flX12_81 kLY_0 (v := .ref (ad 11)) rfl dX12_doings_63 ?_
    refine b_iload_n hO dX12_doings_66 0 rfl rfl ?_
    refine b_aload_n hO dX12_doings_67 1 rfl rfl ?_
    refine b_iconst hO dX12_doings_68 ic_i_1 ?_
    refine b_iconst hO dX12_doings_69 ic_i_0 ?_
    refine b_callVI hO mdX12_knownBut mvX12_knownBut w1571 (ci := 12) rfl rfl (by decide) kLY_0 (As := [.int _, .int _]) (st := [.int _, .ref _]) (ctX12_knownBut n0 hO.2.2.2.2.2.2.1 _ _ _) (Nat.le_of_ble_eq_true rfl) rfl rfl (Nat.le_of_ble_eq_true rfl) dX12_doings_70 (fun z70 => ?_)
    refine b_iast hO kLY_11 (n := 12) rfl dX12_doings_73 ?_
    refine b_bnd (fun M73 => ?_)
    refine b_aload_n hO dX12_doings_74 1 rfl rfl ?_
    refine b_ldc2 hO w1526 dX12_doings_75 ?_
    refine b_callVV hO mdX12_must_ mvX12_must_ w1552 (ci := 12) rfl rfl (by decide) kLY_0 (As := [.long _]) (st := []) (ctX12_must_ n0 hO.2.2.2.2.2.2.1 _ _) (Nat.le_of_ble_eq_true rfl) rfl rfl (Nat.le_of_ble_eq_true rfl) dX12_doings_78 (fun z78 => ?_)
    refine b_aload_n hO dX12_doings_81 1 rfl rfl ?_
    refine b_get hO flX12_84 kLY_0 (v := .ref (ad 12)) rfl dX12_doings_82 ?_
    refine b_iload_n hO dX12_doings_85 0 rfl rfl ?_
    refine b_aload_n hO dX12_doings_86 1 rfl rfl ?_
    refine b_iconst hO dX12_doings_87 ic_i_0 ?_
    refine b_bipush hO dX12_doings_88 ic_b_23 ?_
    refine b_callVI hO mdX12_number mvX12_number w1556 (ci := 12) rfl rfl (by decide) kLY_0 (As := [.int _, .int _]) (st := [.int _, .ref _]) (ctX12_number n0 hO.2.2.2.2.2.2.1 _ _ _) (Nat.le_of_ble_eq_true rfl) rfl rfl (Nat.le_of_ble_eq_true rfl) dX12_doings_90 (fun z90 => ?_)
    refine b_iast hO kLY_12 (n := 12) rfl dX12_doings_93 ?_
    refine b_bnd (fun M93 => ?_)
    refine b_aload_n hO dX12_doings_94 1 rfl rfl ?_
    refine b_get hO flX12_36 kLY_0 (v := .int (gI _ 8)) rfl dX12_doings_95 ?_
    refine b_if_ne hO dX12_doings_98 (tgt := 114) (by decide) ?_ ?_
    · exact b_vret hO dX12_doings_114
    · refine b_aload_n hO dX12_doings_101 1 rfl rfl ?_
      refine b_get hO flX12_78 kLY_0 (v := .ref (ad 10)) rfl dX12_doings_102 ?_
      refine b_aload_n hO dX12_doings_105 1 rfl rfl ?_
      refine b_get hO flX12_115 kLY_0 (v := .int (gI _ 34)) rfl dX12_doings_106 ?_
      refine b_dup2 hO dX12_doings_109 rfl rfl ?_
      refine b_iald hO kLY_10 (n := 2) rfl dX12_doings_110 ?_
      refine b_iconst hO dX12_doings_111 ic_i_1 ?_
      refine b_iadd hO dX12_doings_112 ?_
      refine b_iast hO kLY_10 (n := 2) rfl dX12_doings_113 ?_
      exact b_vret hO dX12_doings_114
  · exact b_vret hO dX12_doings_26
theorem tfX12_doings (n0 : Nat) (hO : OKc p (rmL 4) s m args meth c LY D cy ad cX12_doings RX12 2 4 none) (M : Mem) : BL p l e (rmL 4) s m args below meth c LY D cy ad 2 (QV LY D cy ad) 0 [(0, .ref (ad 0))] [] M (fX12_doings n0 M) := by
  unfold fX12_doings
  refine b_aload_n hO dX12_doings_0 0 rfl rfl ?_
  refine b_aload_n hO dX12_doings_1 0 rfl rfl ?_
  refine b_get hO flX12_78 kLY_0 (v := .ref (ad 10)) rfl dX12_doings_2 ?_
  refine b_aload_n hO dX12_doings_5 0 rfl rfl ?_
  refine b_get hO flX12_115 kLY_0 (v := .int (gI _ 34)) rfl dX12_doings_6 ?_
  refine b_iald hO kLY_10 (n := 2) rfl dX12_doings_9 ?_
  refine b_bipush hO dX12_doings_10 ic_b_6 ?_
  refine b_icmp_ne hO dX12_doings_12 (tgt := 19) (by decide) ?_ ?_
  · refine b_iconst hO dX12_doings_19 ic_i_0 ?_
    exact tfX12_doings_20 n0 hO _ _
  · refine b_iconst hO dX12_doings_15 ic_i_1 ?_
    refine b_goto hO dX12_doings_16 (tgt := 20) (by decide) ?_
    exact tfX12_doings_20 n0 hO _ _
theorem ctX12_doings (n0 : Nat) (hI : Inj LY ad) (M : Mem) : CT l LY D cy ad yX12_doings cX12_doings 2 none 4 (QV LY D cy ad) [.ref (ad 0)] M (fX12_doings n0 M) :=
  CT.mk LYok hI (by decide) (Nat.le_of_ble_eq_true rfl) (fun hO => tfX12_doings n0 hO M)
/-! X12_reading -/
def fX12_reading_67 (n0 : Nat) (x2 : Int32) (u1 : Int32) (M : Mem) : Option (Mem) :=
  (fX12_reads n0 u1 M).bind fun z67 =>
  if oob x2 4 then none else
  some (sA z67 15 (Int32.toNatClampNeg x2) (gI z67 33))
def fX12_reading_43 (n0 : Nat) (x1 : Int32) (x2 : Int32) (u1 : Int32) (M : Mem) : Option (Mem) :=
  if u1 = 0 ∨ u1 = 1 then
  bnd (sI M 35 u1) fun M43 =>
  if oob x2 4 then none else
  bnd (sA M43 14 (Int32.toNatClampNeg x2) (gI M43 33)) fun M55 =>
  if x1 = (1 : Int32) then
    fX12_reading_67 n0 x2 (1 : Int32) M55
  else
    fX12_reading_67 n0 x2 (0 : Int32) M55
  else none
def fX12_reading_25 (n0 : Nat) (x1 : Int32) (x2 : Int32) (u1 : Int32) (M : Mem) : Option (Mem) :=
  (fX12_counts n0 u1 M).bind fun z25 =>
  if z25.1 = 0 then
    some z25.2
  else
    if x1 = (1 : Int32) then
      fX12_reading_43 n0 x1 x2 (1 : Int32) z25.2
    else
      fX12_reading_43 n0 x1 x2 (0 : Int32) z25.2
def fX12_reading (n0 : Nat) (x1 : Int32) (M : Mem) : Option (Mem) :=
  bnd (((2 : Int32) * (gI M 34)) + x1) fun x2_8 =>
  if oob x2_8 4 then none else
  if (gA M 14 (Int32.toNatClampNeg x2_8)) = (-1 : Int32) then
    fX12_reading_25 n0 x1 x2_8 (0 : Int32) M
  else
    fX12_reading_25 n0 x1 x2_8 (1 : Int32) M
theorem tfX12_reading_67 (n0 : Nat) (hO : OKc p (rmL 6) s m args meth c LY D cy ad cX12_reading RX12 3 6 none) (x2 : Int32) (u1 : Int32) (M : Mem) : BL p l e (rmL 6) s m args below meth c LY D cy ad 3 (QV LY D cy ad) 67 [(0, .ref (ad 0)), (2, .int x2)] [.int u1, .ref (ad 0)] M (fX12_reading_67 n0 x2 u1 M) := by
  unfold fX12_reading_67
  refine b_callVV hO mdX12_reads mvX12_reads w1590 (ci := 12) rfl rfl (by decide) kLY_0 (As := [.int _]) (st := []) (ctX12_reads n0 hO.2.2.2.2.2.2.1 _ _) (Nat.le_of_ble_eq_true rfl) rfl rfl (Nat.le_of_ble_eq_true rfl) dX12_reading_67 (fun z67 => ?_)
  refine b_aload_n hO dX12_reading_70 0 rfl rfl ?_
  refine b_get hO flX12_93 kLY_0 (v := .ref (ad 15)) rfl dX12_reading_71 ?_
  refine b_iload_n hO dX12_reading_74 1 rfl rfl ?_
  refine b_aload_n hO dX12_reading_75 0 rfl rfl ?_
  refine b_get hO flX12_112 kLY_0 (v := .int (gI _ 33)) rfl dX12_reading_76 ?_
  refine b_iast hO kLY_15 (n := 4) rfl dX12_reading_79 ?_
  exact b_vret hO dX12_reading_80
theorem tfX12_reading_43 (n0 : Nat) (hO : OKc p (rmL 6) s m args meth c LY D cy ad cX12_reading RX12 3 6 none) (x1 : Int32) (x2 : Int32) (u1 : Int32) (M : Mem) : BL p l e (rmL 6) s m args below meth c LY D cy ad 3 (QV LY D cy ad) 43 [(0, .ref (ad 0)), (1, .int x1), (2, .int x2)] [.int u1, .ref (ad 0)] M (fX12_reading_43 n0 x1 x2 u1 M) := by
  unfold fX12_reading_43
  refine b_putZ hO flX12_118 kLY_0 rfl rfl rfl (id := 35) rfl dX12_reading_43 ?_
  refine b_bnd (fun M43 => ?_)
  refine b_aload_n hO dX12_reading_46 0 rfl rfl ?_
  refine b_get hO flX12_90 kLY_0 (v := .ref (ad 14)) rfl dX12_reading_47 ?_
  refine b_iload_n hO dX12_reading_50 2 rfl rfl ?_
  refine b_aload_n hO dX12_reading_51 0 rfl rfl ?_
  refine b_get hO flX12_112 kLY_0 (v := .int (gI _ 33)) rfl dX12_reading_52 ?_
  refine b_iast hO kLY_14 (n := 4) rfl dX12_reading_55 ?_
  refine b_bnd (fun M55 => ?_)
  refine b_aload_n hO dX12_reading_56 0 rfl rfl ?_
  refine b_iload_n hO dX12_reading_57 1 rfl rfl ?_
  refine b_iconst hO dX12_reading_58 ic_i_1 ?_
  refine b_icmp_ne hO dX12_reading_59 (tgt := 66) (by decide) ?_ ?_
  · refine b_iconst hO dX12_reading_66 ic_i_0 ?_
    refine b_sub [0, 2] rfl ?_
    exact tfX12_reading_67 n0 hO _ _ _
  · refine b_iconst hO dX12_reading_62 ic_i_1 ?_
    refine b_goto hO dX12_reading_63 (tgt := 67) (by decide) ?_
    refine b_sub [0, 2] rfl ?_
    exact tfX12_reading_67 n0 hO _ _ _
theorem tfX12_reading_25 (n0 : Nat) (hO : OKc p (rmL 6) s m args meth c LY D cy ad cX12_reading RX12 3 6 none) (x1 : Int32) (x2 : Int32) (u1 : Int32) (M : Mem) : BL p l e (rmL 6) s m args below meth c LY D cy ad 3 (QV LY D cy ad) 25 [(0, .ref (ad 0)), (1, .int x1), (2, .int x2)] [.int u1, .ref (ad 0)] M (fX12_reading_25 n0 x1 x2 u1 M) := by
  unfold fX12_reading_25
  refine b_callVI hO mdX12_counts mvX12_counts w1504 (ci := 12) rfl rfl (by decide) kLY_0 (As := [.int _]) (st := []) (ctX12_counts n0 hO.2.2.2.2.2.2.1 _ _) (Nat.le_of_ble_eq_true rfl) rfl rfl (Nat.le_of_ble_eq_true rfl) dX12_reading_25 (fun z25 => ?_)
  refine b_if_ne hO dX12_reading_28 (tgt := 32) (by decide) ?_ ?_
  · refine b_aload_n hO dX12_reading_32 0 rfl rfl ?_
    refine b_iload_n hO dX12_reading_33 1 rfl rfl ?_
    refine b_iconst hO dX12_reading_34 ic_i_1 ?_
    refine b_icmp_ne hO dX12_reading_35 (tgt := 42) (by decide) ?_ ?_
    · refine b_iconst hO dX12_reading_42 ic_i_0 ?_
      exact tfX12_reading_43 n0 hO _ _ _ _
    · refine b_iconst hO dX12_reading_38 ic_i_1 ?_
      refine b_goto hO dX12_reading_39 (tgt := 43) (by decide) ?_
      exact tfX12_reading_43 n0 hO _ _ _ _
  · exact b_vret hO dX12_reading_31
theorem tfX12_reading (n0 : Nat) (hO : OKc p (rmL 6) s m args meth c LY D cy ad cX12_reading RX12 3 6 none) (x1 : Int32) (M : Mem) : BL p l e (rmL 6) s m args below meth c LY D cy ad 3 (QV LY D cy ad) 0 [(0, .ref (ad 0)), (1, .int x1)] [] M (fX12_reading n0 x1 M) := by
  unfold fX12_reading
  refine b_iconst hO dX12_reading_0 ic_i_2 ?_
  refine b_aload_n hO dX12_reading_1 0 rfl rfl ?_
  refine b_get hO flX12_115 kLY_0 (v := .int (gI _ 34)) rfl dX12_reading_2 ?_
  refine b_imul hO dX12_reading_5 ?_
  refine b_iload_n hO dX12_reading_6 1 rfl rfl ?_
  refine b_iadd hO dX12_reading_7 ?_
  refine b_topI (fun x2_8 => ?_)
  refine b_istore_n hO dX12_reading_8 rfl (by decide) (lv' := [(2, .int _), (0, .ref _), (1, .int _)]) rfl ?_
  refine b_aload_n hO dX12_reading_9 1 rfl rfl ?_
  refine b_aload_n hO dX12_reading_10 1 rfl rfl ?_
  refine b_get hO flX12_90 kLY_0 (v := .ref (ad 14)) rfl dX12_reading_11 ?_
  refine b_iload_n hO dX12_reading_14 0 rfl rfl ?_
  refine b_iald hO kLY_14 (n := 4) rfl dX12_reading_15 ?_
  refine b_iconst hO dX12_reading_16 ic_i_m1 ?_
  refine b_icmp_eq hO dX12_reading_17 (tgt := 24) (by decide) ?_ ?_
  · refine b_iconst hO dX12_reading_24 ic_i_0 ?_
    refine b_sub [1, 2, 0] rfl ?_
    exact tfX12_reading_25 n0 hO _ _ _ _
  · refine b_iconst hO dX12_reading_20 ic_i_1 ?_
    refine b_goto hO dX12_reading_21 (tgt := 25) (by decide) ?_
    refine b_sub [1, 2, 0] rfl ?_
    exact tfX12_reading_25 n0 hO _ _ _ _
theorem ctX12_reading (n0 : Nat) (hI : Inj LY ad) (x1 : Int32) (M : Mem) : CT l LY D cy ad yX12_reading cX12_reading 3 none 6 (QV LY D cy ad) [.ref (ad 0), .int x1] M (fX12_reading n0 x1 M) :=
  CT.mk LYok hI (by decide) (Nat.le_of_ble_eq_true rfl) (fun hO => tfX12_reading n0 hO x1 M)
/-! X12_passing -/
def fX12_passing (n0 : Nat) (M : Mem) : Option (Mem) :=
  (fX12_counts n0 (0 : Int32) M).bind fun z2 =>
  if z2.1 = 0 then
    some z2.2
  else
    (fX12_number n0 (0 : Int32) (100 : Int32) z2.2).bind fun z13 =>
    if (gI z13.2 8) = 0 then
      if oob (gI z13.2 34) 2 then none else
      some (sA z13.2 13 (Int32.toNatClampNeg (gI z13.2 34)) z13.1)
    else
      some z13.2
theorem tfX12_passing (n0 : Nat) (hO : OKc p (rmL 4) s m args meth c LY D cy ad cX12_passing RX12 2 4 none) (M : Mem) : BL p l e (rmL 4) s m args below meth c LY D cy ad 2 (QV LY D cy ad) 0 [(0, .ref (ad 0))] [] M (fX12_passing n0 M) := by
  unfold fX12_passing
  refine b_aload_n hO dX12_passing_0 0 rfl rfl ?_
  refine b_iconst hO dX12_passing_1 ic_i_0 ?_
  refine b_callVI hO mdX12_counts mvX12_counts w1504 (ci := 12) rfl rfl (by decide) kLY_0 (As := [.int _]) (st := []) (ctX12_counts n0 hO.2.2.2.2.2.2.1 _ _) (Nat.le_of_ble_eq_true rfl) rfl rfl (Nat.le_of_ble_eq_true rfl) dX12_passing_2 (fun z2 => ?_)
  refine b_if_ne hO dX12_passing_5 (tgt := 9) (by decide) ?_ ?_
  · refine b_aload_n hO dX12_passing_9 0 rfl rfl ?_
    refine b_iconst hO dX12_passing_10 ic_i_0 ?_
    refine b_bipush hO dX12_passing_11 ic_b_100 ?_
    refine b_callVI hO mdX12_number mvX12_number w1556 (ci := 12) rfl rfl (by decide) kLY_0 (As := [.int _, .int _]) (st := []) (ctX12_number n0 hO.2.2.2.2.2.2.1 _ _ _) (Nat.le_of_ble_eq_true rfl) rfl rfl (Nat.le_of_ble_eq_true rfl) dX12_passing_13 (fun z13 => ?_)
    refine b_istore_n hO dX12_passing_16 rfl (by decide) (lv' := [(1, .int _), (0, .ref _)]) rfl ?_
    refine b_aload_n hO dX12_passing_17 1 rfl rfl ?_
    refine b_get hO flX12_36 kLY_0 (v := .int (gI _ 8)) rfl dX12_passing_18 ?_
    refine b_if_ne hO dX12_passing_21 (tgt := 34) (by decide) ?_ ?_
    · exact b_vret hO dX12_passing_34
    · refine b_aload_n hO dX12_passing_24 1 rfl rfl ?_
      refine b_get hO flX12_87 kLY_0 (v := .ref (ad 13)) rfl dX12_passing_25 ?_
      refine b_aload_n hO dX12_passing_28 1 rfl rfl ?_
      refine b_get hO flX12_115 kLY_0 (v := .int (gI _ 34)) rfl dX12_passing_29 ?_
      refine b_iload_n hO dX12_passing_32 0 rfl rfl ?_
      refine b_iast hO kLY_13 (n := 2) rfl dX12_passing_33 ?_
      exact b_vret hO dX12_passing_34
  · exact b_vret hO dX12_passing_8
theorem ctX12_passing (n0 : Nat) (hI : Inj LY ad) (M : Mem) : CT l LY D cy ad yX12_passing cX12_passing 2 none 4 (QV LY D cy ad) [.ref (ad 0)] M (fX12_passing n0 M) :=
  CT.mk LYok hI (by decide) (Nat.le_of_ble_eq_true rfl) (fun hO => tfX12_passing n0 hO M)
/-! X12_statement -/
def fX12_statement (n0 : Nat) (M : Mem) : Option (Mem) :=
  (fX12_lex n0 M).bind fun z1 =>
  if (gI z1 8) ≤ 0 then
    (fX12_isWord n0 (499967946343 : Int64) z1).bind fun z16 =>
    if z16.1 = 0 then
      (fX12_isWord n0 (109330312357234 : Int64) z16.2).bind fun z33 =>
      if z33.1 = 0 then
        (fX12_isWord n0 (1919902052 : Int64) z33.2).bind fun z50 =>
        if z50.1 = 0 then
          (fX12_isWord n0 (1885432941 : Int64) z50.2).bind fun z67 =>
          if z67.1 = 0 then
            (fX12_isWord n0 (431365910119 : Int64) z67.2).bind fun z84 =>
            if z84.1 = 0 then
              (fX12_isWord n0 (1935767923 : Int64) z84.2).bind fun z101 =>
              if z101.1 = 0 then
                (fX12_isWord n0 (1735356005 : Int64) z101.2).bind fun z119 =>
                if z119.1 = 0 then
                  (fX12_isWord n0 (1885434739 : Int64) z119.2).bind fun z137 =>
                  if z137.1 = 0 then
                    (fX12_blame n0 (1 : Int32) (gI z137.2 4) z137.2).bind fun z156 =>
                    some z156
                  else
                    (fX12_passing n0 z137.2).bind fun z144 =>
                    some z144
                else
                  (fX12_reading n0 (1 : Int32) z119.2).bind fun z127 =>
                  some z127
              else
                (fX12_reading n0 (0 : Int32) z101.2).bind fun z109 =>
                some z109
            else
              (fX12_doings n0 z84.2).bind fun z91 =>
              some z91
          else
            (fX12_palming n0 z67.2).bind fun z74 =>
            some z74
        else
          (fX12_roading n0 z50.2).bind fun z57 =>
          some z57
      else
        (fX12_cornering n0 z33.2).bind fun z40 =>
        some z40
    else
      (fX12_thinging n0 z16.2).bind fun z23 =>
      some z23
  else
    some z1
theorem tfX12_statement (n0 : Nat) (hO : OKc p (rmL 7) s m args meth c LY D cy ad cX12_statement RX12 1 7 none) (M : Mem) : BL p l e (rmL 7) s m args below meth c LY D cy ad 1 (QV LY D cy ad) 0 [(0, .ref (ad 0))] [] M (fX12_statement n0 M) := by
  unfold fX12_statement
  refine b_aload_n hO dX12_statement_0 0 rfl rfl ?_
  refine b_callVV hO mdX12_lex mvX12_lex w1487 (ci := 12) rfl rfl (by decide) kLY_0 (As := []) (st := []) (ctX12_lex n0 hO.2.2.2.2.2.2.1 _) (Nat.le_of_ble_eq_true rfl) rfl rfl (Nat.le_of_ble_eq_true rfl) dX12_statement_1 (fun z1 => ?_)
  refine b_aload_n hO dX12_statement_4 0 rfl rfl ?_
  refine b_get hO flX12_36 kLY_0 (v := .int (gI _ 8)) rfl dX12_statement_5 ?_
  refine b_if_le hO dX12_statement_8 (tgt := 12) (by decide) ?_ ?_
  · refine b_aload_n hO dX12_statement_12 0 rfl rfl ?_
    refine b_ldc2 hO w1495 dX12_statement_13 ?_
    refine b_callVI hO mdX12_isWord mvX12_isWord w1496 (ci := 12) rfl rfl (by decide) kLY_0 (As := [.long _]) (st := []) (ctX12_isWord n0 hO.2.2.2.2.2.2.1 _ _) (Nat.le_of_ble_eq_true rfl) rfl rfl (Nat.le_of_ble_eq_true rfl) dX12_statement_16 (fun z16 => ?_)
    refine b_if_eq hO dX12_statement_19 (tgt := 29) (by decide) ?_ ?_
    · refine b_aload_n hO dX12_statement_29 0 rfl rfl ?_
      refine b_ldc2 hO w1518 dX12_statement_30 ?_
      refine b_callVI hO mdX12_isWord mvX12_isWord w1496 (ci := 12) rfl rfl (by decide) kLY_0 (As := [.long _]) (st := []) (ctX12_isWord n0 hO.2.2.2.2.2.2.1 _ _) (Nat.le_of_ble_eq_true rfl) rfl rfl (Nat.le_of_ble_eq_true rfl) dX12_statement_33 (fun z33 => ?_)
      refine b_if_eq hO dX12_statement_36 (tgt := 46) (by decide) ?_ ?_
      · refine b_aload_n hO dX12_statement_46 0 rfl rfl ?_
        refine b_ldc2 hO w1519 dX12_statement_47 ?_
        refine b_callVI hO mdX12_isWord mvX12_isWord w1496 (ci := 12) rfl rfl (by decide) kLY_0 (As := [.long _]) (st := []) (ctX12_isWord n0 hO.2.2.2.2.2.2.1 _ _) (Nat.le_of_ble_eq_true rfl) rfl rfl (Nat.le_of_ble_eq_true rfl) dX12_statement_50 (fun z50 => ?_)
        refine b_if_eq hO dX12_statement_53 (tgt := 63) (by decide) ?_ ?_
        · refine b_aload_n hO dX12_statement_63 0 rfl rfl ?_
          refine b_ldc2 hO w1522 dX12_statement_64 ?_
          refine b_callVI hO mdX12_isWord mvX12_isWord w1496 (ci := 12) rfl rfl (by decide) kLY_0 (As := [.long _]) (st := []) (ctX12_isWord n0 hO.2.2.2.2.2.2.1 _ _) (Nat.le_of_ble_eq_true rfl) rfl rfl (Nat.le_of_ble_eq_true rfl) dX12_statement_67 (fun z67 => ?_)
          refine b_if_eq hO dX12_statement_70 (tgt := 80) (by decide) ?_ ?_
          · refine b_aload_n hO dX12_statement_80 0 rfl rfl ?_
            refine b_ldc2 hO w1524 dX12_statement_81 ?_
            refine b_callVI hO mdX12_isWord mvX12_isWord w1496 (ci := 12) rfl rfl (by decide) kLY_0 (As := [.long _]) (st := []) (ctX12_isWord n0 hO.2.2.2.2.2.2.1 _ _) (Nat.le_of_ble_eq_true rfl) rfl rfl (Nat.le_of_ble_eq_true rfl) dX12_statement_84 (fun z84 => ?_)
            refine b_if_eq hO dX12_statement_87 (tgt := 97) (by decide) ?_ ?_
            · refine b_aload_n hO dX12_statement_97 0 rfl rfl ?_
              refine b_ldc2 hO w1527 dX12_statement_98 ?_
              refine b_callVI hO mdX12_isWord mvX12_isWord w1496 (ci := 12) rfl rfl (by decide) kLY_0 (As := [.long _]) (st := []) (ctX12_isWord n0 hO.2.2.2.2.2.2.1 _ _) (Nat.le_of_ble_eq_true rfl) rfl rfl (Nat.le_of_ble_eq_true rfl) dX12_statement_101 (fun z101 => ?_)
              refine b_if_eq hO dX12_statement_104 (tgt := 115) (by decide) ?_ ?_
              · refine b_aload_n hO dX12_statement_115 0 rfl rfl ?_
                refine b_ldc2 hO w1528 dX12_statement_116 ?_
                refine b_callVI hO mdX12_isWord mvX12_isWord w1496 (ci := 12) rfl rfl (by decide) kLY_0 (As := [.long _]) (st := []) (ctX12_isWord n0 hO.2.2.2.2.2.2.1 _ _) (Nat.le_of_ble_eq_true rfl) rfl rfl (Nat.le_of_ble_eq_true rfl) dX12_statement_119 (fun z119 => ?_)
                refine b_if_eq hO dX12_statement_122 (tgt := 133) (by decide) ?_ ?_
                · refine b_aload_n hO dX12_statement_133 0 rfl rfl ?_
                  refine b_ldc2 hO w1529 dX12_statement_134 ?_
                  refine b_callVI hO mdX12_isWord mvX12_isWord w1496 (ci := 12) rfl rfl (by decide) kLY_0 (As := [.long _]) (st := []) (ctX12_isWord n0 hO.2.2.2.2.2.2.1 _ _) (Nat.le_of_ble_eq_true rfl) rfl rfl (Nat.le_of_ble_eq_true rfl) dX12_statement_137 (fun z137 => ?_)
                  refine b_if_eq hO dX12_statement_140 (tgt := 150) (by decide) ?_ ?_
                  · refine b_aload_n hO dX12_statement_150 0 rfl rfl ?_
                    refine b_iconst hO dX12_statement_151 ic_i_1 ?_
                    refine b_aload_n hO dX12_statement_152 0 rfl rfl ?_
                    refine b_get hO flX12_23 kLY_0 (v := .int (gI _ 4)) rfl dX12_statement_153 ?_
                    refine b_callVV hO mdX12_blame mvX12_blame w1491 (ci := 12) rfl rfl (by decide) kLY_0 (As := [.int _, .int _]) (st := []) (ctX12_blame n0 hO.2.2.2.2.2.2.1 _ _ _) (Nat.le_of_ble_eq_true rfl) rfl rfl (Nat.le_of_ble_eq_true rfl) dX12_statement_156 (fun z156 => ?_)
                    exact b_vret hO dX12_statement_159
                  · refine b_aload_n hO dX12_statement_143 0 rfl rfl ?_
                    refine b_callVV hO mdX12_passing mvX12_passing w1632 (ci := 12) rfl rfl (by decide) kLY_0 (As := []) (st := []) (ctX12_passing n0 hO.2.2.2.2.2.2.1 _) (Nat.le_of_ble_eq_true rfl) rfl rfl (Nat.le_of_ble_eq_true rfl) dX12_statement_144 (fun z144 => ?_)
                    refine b_goto hO dX12_statement_147 (tgt := 159) (by decide) ?_
                    exact b_vret hO dX12_statement_159
                · refine b_aload_n hO dX12_statement_125 0 rfl rfl ?_
                  refine b_iconst hO dX12_statement_126 ic_i_1 ?_
                  refine b_callVV hO mdX12_reading mvX12_reading w1586 (ci := 12) rfl rfl (by decide) kLY_0 (As := [.int _]) (st := []) (ctX12_reading n0 hO.2.2.2.2.2.2.1 _ _) (Nat.le_of_ble_eq_true rfl) rfl rfl (Nat.le_of_ble_eq_true rfl) dX12_statement_127 (fun z127 => ?_)
                  refine b_goto hO dX12_statement_130 (tgt := 159) (by decide) ?_
                  exact b_vret hO dX12_statement_159
              · refine b_aload_n hO dX12_statement_107 0 rfl rfl ?_
                refine b_iconst hO dX12_statement_108 ic_i_0 ?_
                refine b_callVV hO mdX12_reading mvX12_reading w1586 (ci := 12) rfl rfl (by decide) kLY_0 (As := [.int _]) (st := []) (ctX12_reading n0 hO.2.2.2.2.2.2.1 _ _) (Nat.le_of_ble_eq_true rfl) rfl rfl (Nat.le_of_ble_eq_true rfl) dX12_statement_109 (fun z109 => ?_)
                refine b_goto hO dX12_statement_112 (tgt := 159) (by decide) ?_
                exact b_vret hO dX12_statement_159
            · refine b_aload_n hO dX12_statement_90 0 rfl rfl ?_
              refine b_callVV hO mdX12_doings mvX12_doings w1582 (ci := 12) rfl rfl (by decide) kLY_0 (As := []) (st := []) (ctX12_doings n0 hO.2.2.2.2.2.2.1 _) (Nat.le_of_ble_eq_true rfl) rfl rfl (Nat.le_of_ble_eq_true rfl) dX12_statement_91 (fun z91 => ?_)
              refine b_goto hO dX12_statement_94 (tgt := 159) (by decide) ?_
              exact b_vret hO dX12_statement_159
          · refine b_aload_n hO dX12_statement_73 0 rfl rfl ?_
            refine b_callVV hO mdX12_palming mvX12_palming w1578 (ci := 12) rfl rfl (by decide) kLY_0 (As := []) (st := []) (ctX12_palming n0 hO.2.2.2.2.2.2.1 _) (Nat.le_of_ble_eq_true rfl) rfl rfl (Nat.le_of_ble_eq_true rfl) dX12_statement_74 (fun z74 => ?_)
            refine b_goto hO dX12_statement_77 (tgt := 159) (by decide) ?_
            exact b_vret hO dX12_statement_159
        · refine b_aload_n hO dX12_statement_56 0 rfl rfl ?_
          refine b_callVV hO mdX12_roading mvX12_roading w1567 (ci := 12) rfl rfl (by decide) kLY_0 (As := []) (st := []) (ctX12_roading n0 hO.2.2.2.2.2.2.1 _) (Nat.le_of_ble_eq_true rfl) rfl rfl (Nat.le_of_ble_eq_true rfl) dX12_statement_57 (fun z57 => ?_)
          refine b_goto hO dX12_statement_60 (tgt := 159) (by decide) ?_
          exact b_vret hO dX12_statement_159
      · refine b_aload_n hO dX12_statement_39 0 rfl rfl ?_
        refine b_callVV hO mdX12_cornering mvX12_cornering w1563 (ci := 12) rfl rfl (by decide) kLY_0 (As := []) (st := []) (ctX12_cornering n0 hO.2.2.2.2.2.2.1 _) (Nat.le_of_ble_eq_true rfl) rfl rfl (Nat.le_of_ble_eq_true rfl) dX12_statement_40 (fun z40 => ?_)
        refine b_goto hO dX12_statement_43 (tgt := 159) (by decide) ?_
        exact b_vret hO dX12_statement_159
    · refine b_aload_n hO dX12_statement_22 0 rfl rfl ?_
      refine b_callVV hO mdX12_thinging mvX12_thinging w1500 (ci := 12) rfl rfl (by decide) kLY_0 (As := []) (st := []) (ctX12_thinging n0 hO.2.2.2.2.2.2.1 _) (Nat.le_of_ble_eq_true rfl) rfl rfl (Nat.le_of_ble_eq_true rfl) dX12_statement_23 (fun z23 => ?_)
      refine b_goto hO dX12_statement_26 (tgt := 159) (by decide) ?_
      exact b_vret hO dX12_statement_159
  · exact b_vret hO dX12_statement_11
theorem ctX12_statement (n0 : Nat) (hI : Inj LY ad) (M : Mem) : CT l LY D cy ad yX12_statement cX12_statement 1 none 7 (QV LY D cy ad) [.ref (ad 0)] M (fX12_statement n0 M) :=
  CT.mk LYok hI (by decide) (Nat.le_of_ble_eq_true rfl) (fun hO => tfX12_statement n0 hO M)
/-! X12_finishes -/
def fX12_finishes_47 (n0 : Nat) (k17 : Int32 → Int32 → Mem → Option (Mem)) (x1 : Int32) (x2 : Int32) (M : Mem) : Option (Mem) :=
  k17 x1 (x2 + (1 : Int32)) M
def fX12_finishes_83 (n0 : Nat) (M : Mem) : Option (Mem) :=
  (fX12_must n0 (59 : Int32) M).bind fun z86 =>
  some z86
def fX12_finishes_53 (n0 : Nat) (x1 : Int32) (x2 : Int32) (M : Mem) : Option (Mem) :=
  (fX12_isSign n0 (59 : Int32) M).bind fun z56 =>
  if z56.1 = 0 then
    fX12_finishes_83 n0 z56.2
  else
    if x1 = (80 : Int32) then
      if (gI z56.2 2) ≤ x2 then
        fX12_finishes_83 n0 z56.2
      else
        (fX12_blame n0 (6 : Int32) x2 z56.2).bind fun z80 =>
        fX12_finishes_83 n0 z80
    else
      fX12_finishes_83 n0 z56.2
def bX12_finishes_17 (n0 : Nat) (k17 : Int32 → Int32 → Mem → Option (Mem)) (x1 : Int32) (x2 : Int32) (M : Mem) : Option (Mem) :=
  if (gI M 2) ≤ x2 then
    fX12_finishes_53 n0 x1 x2 M
  else
    if oob x2 1800 then none else
    if (gA M 1 (Int32.toNatClampNeg x2)) = (32 : Int32) then
      fX12_finishes_47 n0 k17 x1 x2 M
    else
      if oob x2 1800 then none else
      if (gA M 1 (Int32.toNatClampNeg x2)) = (10 : Int32) then
        fX12_finishes_47 n0 k17 x1 x2 M
      else
        fX12_finishes_53 n0 x1 x2 M
def fX12_finishes_17 (n0 : Nat) : Int32 → Int32 → Mem → Option (Mem) := loopN (bX12_finishes_17 n0) (fun _ _ _ => none) n0
def fX12_finishes (n0 : Nat) (x1 : Int32) (M : Mem) : Option (Mem) :=
  (fX12_lex n0 M).bind fun z1 =>
  if (gI z1 8) ≤ 0 then
    bnd (gI z1 5) fun x2_16 =>
    fX12_finishes_17 n0 x1 x2_16 z1
  else
    some z1
theorem tfX12_finishes_47 (n0 : Nat) (hO : OKc p (rmL 4) s m args meth c LY D cy ad cX12_finishes RX12 3 4 none) (k17 : Int32 → Int32 → Mem → Option (Mem)) (hk17 : ∀ (x1 : Int32) (x2 : Int32) (M : Mem), BL p l e (rmL 4) s m args below meth c LY D cy ad 3 (QV LY D cy ad) 17 [(0, .ref (ad 0)), (1, .int x1), (2, .int x2)] [] M (k17 x1 x2 M)) (x1 : Int32) (x2 : Int32) (M : Mem) : BL p l e (rmL 4) s m args below meth c LY D cy ad 3 (QV LY D cy ad) 47 [(0, .ref (ad 0)), (1, .int x1), (2, .int x2)] [] M (fX12_finishes_47 n0 k17 x1 x2 M) := by
  unfold fX12_finishes_47
  refine b_iinc hO dX12_finishes_47 2 rfl ic_i_1 (by decide) (lv' := [(2, .int _), (0, .ref _), (1, .int _)]) rfl ?_
  refine b_goto hO dX12_finishes_50 (tgt := 17) (by decide) ?_
  refine b_sub [1, 2, 0] rfl ?_
  exact hk17 _ _ _
theorem tfX12_finishes_83 (n0 : Nat) (hO : OKc p (rmL 4) s m args meth c LY D cy ad cX12_finishes RX12 3 4 none) (M : Mem) : BL p l e (rmL 4) s m args below meth c LY D cy ad 3 (QV LY D cy ad) 83 [(0, .ref (ad 0))] [] M (fX12_finishes_83 n0 M) := by
  unfold fX12_finishes_83
  refine b_aload_n hO dX12_finishes_83 0 rfl rfl ?_
  refine b_bipush hO dX12_finishes_84 ic_b_59 ?_
  refine b_callVV hO mdX12_must mvX12_must w1640 (ci := 12) rfl rfl (by decide) kLY_0 (As := [.int _]) (st := []) (ctX12_must n0 hO.2.2.2.2.2.2.1 _ _) (Nat.le_of_ble_eq_true rfl) rfl rfl (Nat.le_of_ble_eq_true rfl) dX12_finishes_86 (fun z86 => ?_)
  exact b_vret hO dX12_finishes_89
theorem tfX12_finishes_53 (n0 : Nat) (hO : OKc p (rmL 4) s m args meth c LY D cy ad cX12_finishes RX12 3 4 none) (x1 : Int32) (x2 : Int32) (M : Mem) : BL p l e (rmL 4) s m args below meth c LY D cy ad 3 (QV LY D cy ad) 53 [(0, .ref (ad 0)), (1, .int x1), (2, .int x2)] [] M (fX12_finishes_53 n0 x1 x2 M) := by
  unfold fX12_finishes_53
  refine b_aload_n hO dX12_finishes_53 0 rfl rfl ?_
  refine b_bipush hO dX12_finishes_54 ic_b_59 ?_
  refine b_callVI hO mdX12_isSign mvX12_isSign w1609 (ci := 12) rfl rfl (by decide) kLY_0 (As := [.int _]) (st := []) (ctX12_isSign n0 hO.2.2.2.2.2.2.1 _ _) (Nat.le_of_ble_eq_true rfl) rfl rfl (Nat.le_of_ble_eq_true rfl) dX12_finishes_56 (fun z56 => ?_)
  refine b_if_eq hO dX12_finishes_59 (tgt := 83) (by decide) ?_ ?_
  · refine b_sub [0] rfl ?_
    exact tfX12_finishes_83 n0 hO _
  · refine b_iload_n hO dX12_finishes_62 1 rfl rfl ?_
    refine b_bipush hO dX12_finishes_63 ic_b_80 ?_
    refine b_icmp_ne hO dX12_finishes_65 (tgt := 83) (by decide) ?_ ?_
    · refine b_sub [0] rfl ?_
      exact tfX12_finishes_83 n0 hO _
    · refine b_iload_n hO dX12_finishes_68 2 rfl rfl ?_
      refine b_aload_n hO dX12_finishes_69 0 rfl rfl ?_
      refine b_get hO flX12_17 kLY_0 (v := .int (gI _ 2)) rfl dX12_finishes_70 ?_
      refine b_icmp_ge hO dX12_finishes_73 (tgt := 83) (by decide) ?_ ?_
      · refine b_sub [0] rfl ?_
        exact tfX12_finishes_83 n0 hO _
      · refine b_aload_n hO dX12_finishes_76 0 rfl rfl ?_
        refine b_bipush hO dX12_finishes_77 ic_b_6 ?_
        refine b_iload_n hO dX12_finishes_79 2 rfl rfl ?_
        refine b_callVV hO mdX12_blame mvX12_blame w1491 (ci := 12) rfl rfl (by decide) kLY_0 (As := [.int _, .int _]) (st := []) (ctX12_blame n0 hO.2.2.2.2.2.2.1 _ _ _) (Nat.le_of_ble_eq_true rfl) rfl rfl (Nat.le_of_ble_eq_true rfl) dX12_finishes_80 (fun z80 => ?_)
        refine b_sub [0] rfl ?_
        exact tfX12_finishes_83 n0 hO _
theorem tbX12_finishes_17 (n0 : Nat) (hO : OKc p (rmL 4) s m args meth c LY D cy ad cX12_finishes RX12 3 4 none) (k17 : Int32 → Int32 → Mem → Option (Mem)) (hk17 : ∀ (x1 : Int32) (x2 : Int32) (M : Mem), BL p l e (rmL 4) s m args below meth c LY D cy ad 3 (QV LY D cy ad) 17 [(0, .ref (ad 0)), (1, .int x1), (2, .int x2)] [] M (k17 x1 x2 M)) (x1 : Int32) (x2 : Int32) (M : Mem) : BL p l e (rmL 4) s m args below meth c LY D cy ad 3 (QV LY D cy ad) 17 [(0, .ref (ad 0)), (1, .int x1), (2, .int x2)] [] M (bX12_finishes_17 n0 k17 x1 x2 M) := by
  unfold bX12_finishes_17
  refine b_iload_n hO dX12_finishes_17 2 rfl rfl ?_
  refine b_aload_n hO dX12_finishes_18 0 rfl rfl ?_
  refine b_get hO flX12_17 kLY_0 (v := .int (gI _ 2)) rfl dX12_finishes_19 ?_
  refine b_icmp_ge hO dX12_finishes_22 (tgt := 53) (by decide) ?_ ?_
  · exact tfX12_finishes_53 n0 hO _ _ _
  · refine b_aload_n hO dX12_finishes_25 0 rfl rfl ?_
    refine b_get hO flX12_7 kLY_0 (v := .ref (ad 1)) rfl dX12_finishes_26 ?_
    refine b_iload_n hO dX12_finishes_29 2 rfl rfl ?_
    refine b_iald hO kLY_1 (n := 1800) rfl dX12_finishes_30 ?_
    refine b_bipush hO dX12_finishes_31 ic_b_32 ?_
    refine b_icmp_eq hO dX12_finishes_33 (tgt := 47) (by decide) ?_ ?_
    · exact tfX12_finishes_47 n0 hO k17 hk17 _ _ _
    · refine b_aload_n hO dX12_finishes_36 0 rfl rfl ?_
      refine b_get hO flX12_7 kLY_0 (v := .ref (ad 1)) rfl dX12_finishes_37 ?_
      refine b_iload_n hO dX12_finishes_40 2 rfl rfl ?_
      refine b_iald hO kLY_1 (n := 1800) rfl dX12_finishes_41 ?_
      refine b_bipush hO dX12_finishes_42 ic_b_10 ?_
      refine b_icmp_ne hO dX12_finishes_44 (tgt := 53) (by decide) ?_ ?_
      · exact tfX12_finishes_53 n0 hO _ _ _
      · exact tfX12_finishes_47 n0 hO k17 hk17 _ _ _
theorem lX12_finishes_17 (n0 : Nat) (hO : OKc p (rmL 4) s m args meth c LY D cy ad cX12_finishes RX12 3 4 none) : ∀ (w : Nat) (x1 : Int32) (x2 : Int32) (M : Mem), BL p l e (rmL 4) s m args below meth c LY D cy ad 3 (QV LY D cy ad) 17 [(0, .ref (ad 0)), (1, .int x1), (2, .int x2)] [] M (loopN (bX12_finishes_17 n0) (fun _ _ _ => none) w x1 x2 M) := by
  intro w
  induction w with
  | zero =>
    intros
    exact b_none
  | succ w ih =>
    intro x1 x2 M
    exact tbX12_finishes_17 n0 hO _ ih x1 x2 M
theorem tfX12_finishes_17 (n0 : Nat) (hO : OKc p (rmL 4) s m args meth c LY D cy ad cX12_finishes RX12 3 4 none) (x1 : Int32) (x2 : Int32) (M : Mem) : BL p l e (rmL 4) s m args below meth c LY D cy ad 3 (QV LY D cy ad) 17 [(0, .ref (ad 0)), (1, .int x1), (2, .int x2)] [] M (fX12_finishes_17 n0 x1 x2 M) := lX12_finishes_17 n0 hO n0 x1 x2 M
theorem tfX12_finishes (n0 : Nat) (hO : OKc p (rmL 4) s m args meth c LY D cy ad cX12_finishes RX12 3 4 none) (x1 : Int32) (M : Mem) : BL p l e (rmL 4) s m args below meth c LY D cy ad 3 (QV LY D cy ad) 0 [(0, .ref (ad 0)), (1, .int x1)] [] M (fX12_finishes n0 x1 M) := by
  unfold fX12_finishes
  refine b_aload_n hO dX12_finishes_0 0 rfl rfl ?_
  refine b_callVV hO mdX12_lex mvX12_lex w1487 (ci := 12) rfl rfl (by decide) kLY_0 (As := []) (st := []) (ctX12_lex n0 hO.2.2.2.2.2.2.1 _) (Nat.le_of_ble_eq_true rfl) rfl rfl (Nat.le_of_ble_eq_true rfl) dX12_finishes_1 (fun z1 => ?_)
  refine b_aload_n hO dX12_finishes_4 0 rfl rfl ?_
  refine b_get hO flX12_36 kLY_0 (v := .int (gI _ 8)) rfl dX12_finishes_5 ?_
  refine b_if_le hO dX12_finishes_8 (tgt := 12) (by decide) ?_ ?_
  · refine b_aload_n hO dX12_finishes_12 0 rfl rfl ?_
    refine b_get hO flX12_26 kLY_0 (v := .int (gI _ 5)) rfl dX12_finishes_13 ?_
    refine b_topI (fun x2_16 => ?_)
    refine b_istore_n hO dX12_finishes_16 rfl (by decide) (lv' := [(2, .int _), (0, .ref _), (1, .int _)]) rfl ?_
    refine b_sub [1, 2, 0] rfl ?_
    exact tfX12_finishes_17 n0 hO _ _ _
  · exact b_vret hO dX12_finishes_11
theorem ctX12_finishes (n0 : Nat) (hI : Inj LY ad) (x1 : Int32) (M : Mem) : CT l LY D cy ad yX12_finishes cX12_finishes 3 none 4 (QV LY D cy ad) [.ref (ad 0), .int x1] M (fX12_finishes n0 x1 M) :=
  CT.mk LYok hI (by decide) (Nat.le_of_ble_eq_true rfl) (fun hO => tfX12_finishes n0 hO x1 M)
/-! X12_measures -/
def fX12_measures_76 (n0 : Nat) (k2 : Int32 → Mem → Option (Mem)) (k9 : Int32 → Int32 → Mem → Option (Mem)) (x1 : Int32) (x2 : Int32) (u1 : Int32) (u2 : Int32) (M : Mem) : Option (Mem) :=
  if oob u1 50 then none else
  bnd (sA M 9 (Int32.toNatClampNeg u1) u2) fun M76 =>
  k9 x1 (x2 + (1 : Int32)) M76
def bX12_measures_9 (n0 : Nat) (k2 : Int32 → Mem → Option (Mem)) (k9 : Int32 → Int32 → Mem → Option (Mem)) (x1 : Int32) (x2 : Int32) (M : Mem) : Option (Mem) :=
  if (5 : Int32) ≤ x2 then
    k2 (x1 + (1 : Int32)) M
  else
    (fX12_at n0 (gI M 34) x1 x2 M).bind fun z25 =>
    if x1 = x2 then
      fX12_measures_76 n0 k2 k9 x1 x2 z25.1 (0 : Int32) z25.2
    else
      (fX12_at n0 (gI z25.2 34) x1 x2 z25.2).bind fun z48 =>
      if oob z48.1 50 then none else
      if (gA z48.2 8 (Int32.toNatClampNeg z48.1)) ≤ 0 then
        fX12_measures_76 n0 k2 k9 x1 x2 z25.1 (100000000 : Int32) z48.2
      else
        (fX12_at n0 (gI z48.2 34) x1 x2 z48.2).bind fun z66 =>
        if oob z66.1 50 then none else
        fX12_measures_76 n0 k2 k9 x1 x2 z25.1 (gA z66.2 8 (Int32.toNatClampNeg z66.1)) z66.2
def fX12_measures_9 (n0 : Nat) (k2 : Int32 → Mem → Option (Mem)) : Int32 → Int32 → Mem → Option (Mem) := loopN (bX12_measures_9 n0 k2) (fun _ _ _ => none) n0
def fX12_measures_180 (n0 : Nat) (k91 : Int32 → Mem → Option (Mem)) (k98 : Int32 → Int32 → Mem → Option (Mem)) (k105 : Int32 → Int32 → Int32 → Mem → Option (Mem)) (x1 : Int32) (x2 : Int32) (x3 : Int32) (M : Mem) : Option (Mem) :=
  k105 x1 x2 (x3 + (1 : Int32)) M
def bX12_measures_105 (n0 : Nat) (k91 : Int32 → Mem → Option (Mem)) (k98 : Int32 → Int32 → Mem → Option (Mem)) (k105 : Int32 → Int32 → Int32 → Mem → Option (Mem)) (x1 : Int32) (x2 : Int32) (x3 : Int32) (M : Mem) : Option (Mem) :=
  if (5 : Int32) ≤ x3 then
    k98 x1 (x2 + (1 : Int32)) M
  else
    (fX12_at n0 (gI M 34) x2 x1 M).bind fun z121 =>
    if oob z121.1 50 then none else
    (fX12_at n0 (gI z121.2 34) x1 x3 z121.2).bind fun z136 =>
    if oob z136.1 50 then none else
    bnd ((gA z121.2 9 (Int32.toNatClampNeg z121.1)) + (gA z136.2 9 (Int32.toNatClampNeg z136.1))) fun x4_141 =>
    (fX12_at n0 (gI z136.2 34) x2 x3 z136.2).bind fun z156 =>
    if oob z156.1 50 then none else
    if (gA z156.2 9 (Int32.toNatClampNeg z156.1)) ≤ x4_141 then
      fX12_measures_180 n0 k91 k98 k105 x1 x2 x3 z156.2
    else
      (fX12_at n0 (gI z156.2 34) x2 x3 z156.2).bind fun z174 =>
      if oob z174.1 50 then none else
      fX12_measures_180 n0 k91 k98 k105 x1 x2 x3 (sA z174.2 9 (Int32.toNatClampNeg z174.1) x4_141)
def fX12_measures_105 (n0 : Nat) (k91 : Int32 → Mem → Option (Mem)) (k98 : Int32 → Int32 → Mem → Option (Mem)) : Int32 → Int32 → Int32 → Mem → Option (Mem) := loopN (bX12_measures_105 n0 k91 k98) (fun _ _ _ _ => none) n0
def bX12_measures_98 (n0 : Nat) (k91 : Int32 → Mem → Option (Mem)) (k98 : Int32 → Int32 → Mem → Option (Mem)) (x1 : Int32) (x2 : Int32) (M : Mem) : Option (Mem) :=
  if (5 : Int32) ≤ x2 then
    k91 (x1 + (1 : Int32)) M
  else
    fX12_measures_105 n0 k91 k98 x1 x2 (0 : Int32) M
def fX12_measures_98 (n0 : Nat) (k91 : Int32 → Mem → Option (Mem)) : Int32 → Int32 → Mem → Option (Mem) := loopN (bX12_measures_98 n0 k91) (fun _ _ _ => none) n0
def bX12_measures_91 (n0 : Nat) (k91 : Int32 → Mem → Option (Mem)) (x1 : Int32) (M : Mem) : Option (Mem) :=
  if (5 : Int32) ≤ x1 then
    some M
  else
    fX12_measures_98 n0 k91 x1 (0 : Int32) M
def fX12_measures_91 (n0 : Nat) : Int32 → Mem → Option (Mem) := loopN (bX12_measures_91 n0) (fun _ _ => none) n0
def bX12_measures_2 (n0 : Nat) (k2 : Int32 → Mem → Option (Mem)) (x1 : Int32) (M : Mem) : Option (Mem) :=
  if (5 : Int32) ≤ x1 then
    fX12_measures_91 n0 (0 : Int32) M
  else
    fX12_measures_9 n0 k2 x1 (0 : Int32) M
def fX12_measures_2 (n0 : Nat) : Int32 → Mem → Option (Mem) := loopN (bX12_measures_2 n0) (fun _ _ => none) n0
def fX12_measures (n0 : Nat) (M : Mem) : Option (Mem) :=
  fX12_measures_2 n0 (0 : Int32) M
theorem tfX12_measures_76 (n0 : Nat) (hO : OKc p (rmL 2) s m args meth c LY D cy ad cX12_measures RX12 5 2 none) (k2 : Int32 → Mem → Option (Mem)) (k9 : Int32 → Int32 → Mem → Option (Mem)) (hk2 : ∀ (x1 : Int32) (M : Mem), BL p l e (rmL 2) s m args below meth c LY D cy ad 5 (QV LY D cy ad) 2 [(0, .ref (ad 0)), (1, .int x1)] [] M (k2 x1 M)) (hk9 : ∀ (x1 : Int32) (x2 : Int32) (M : Mem), BL p l e (rmL 2) s m args below meth c LY D cy ad 5 (QV LY D cy ad) 9 [(0, .ref (ad 0)), (1, .int x1), (2, .int x2)] [] M (k9 x1 x2 M)) (x1 : Int32) (x2 : Int32) (u1 : Int32) (u2 : Int32) (M : Mem) : BL p l e (rmL 2) s m args below meth c LY D cy ad 5 (QV LY D cy ad) 76 [(0, .ref (ad 0)), (1, .int x1), (2, .int x2)] [.int u2, .int u1, .ref (ad 9)] M (fX12_measures_76 n0 k2 k9 x1 x2 u1 u2 M) := by
  unfold fX12_measures_76
  refine b_iast hO kLY_9 (n := 50) rfl dX12_measures_76 ?_
  refine b_bnd (fun M76 => ?_)
  refine b_iinc hO dX12_measures_77 2 rfl ic_i_1 (by decide) (lv' := [(2, .int _), (0, .ref _), (1, .int _)]) rfl ?_
  refine b_goto hO dX12_measures_80 (tgt := 9) (by decide) ?_
  refine b_sub [1, 2, 0] rfl ?_
  exact hk9 _ _ _
theorem tbX12_measures_9 (n0 : Nat) (hO : OKc p (rmL 2) s m args meth c LY D cy ad cX12_measures RX12 5 2 none) (k2 : Int32 → Mem → Option (Mem)) (k9 : Int32 → Int32 → Mem → Option (Mem)) (hk2 : ∀ (x1 : Int32) (M : Mem), BL p l e (rmL 2) s m args below meth c LY D cy ad 5 (QV LY D cy ad) 2 [(0, .ref (ad 0)), (1, .int x1)] [] M (k2 x1 M)) (hk9 : ∀ (x1 : Int32) (x2 : Int32) (M : Mem), BL p l e (rmL 2) s m args below meth c LY D cy ad 5 (QV LY D cy ad) 9 [(0, .ref (ad 0)), (1, .int x1), (2, .int x2)] [] M (k9 x1 x2 M)) (x1 : Int32) (x2 : Int32) (M : Mem) : BL p l e (rmL 2) s m args below meth c LY D cy ad 5 (QV LY D cy ad) 9 [(0, .ref (ad 0)), (1, .int x1), (2, .int x2)] [] M (bX12_measures_9 n0 k2 k9 x1 x2 M) := by
  unfold bX12_measures_9
  refine b_iload_n hO dX12_measures_9 2 rfl rfl ?_
  refine b_iconst hO dX12_measures_10 ic_i_5 ?_
  refine b_icmp_ge hO dX12_measures_11 (tgt := 83) (by decide) ?_ ?_
  · refine b_iinc hO dX12_measures_83 1 rfl ic_i_1 (by decide) (lv' := [(1, .int _), (0, .ref _), (2, .int _)]) rfl ?_
    refine b_goto hO dX12_measures_86 (tgt := 2) (by decide) ?_
    refine b_sub [1, 0] rfl ?_
    exact hk2 _ _
  · refine b_aload_n hO dX12_measures_14 0 rfl rfl ?_
    refine b_get hO flX12_75 kLY_0 (v := .ref (ad 9)) rfl dX12_measures_15 ?_
    refine b_aload_n hO dX12_measures_18 0 rfl rfl ?_
    refine b_aload_n hO dX12_measures_19 0 rfl rfl ?_
    refine b_get hO flX12_115 kLY_0 (v := .int (gI _ 34)) rfl dX12_measures_20 ?_
    refine b_iload_n hO dX12_measures_23 1 rfl rfl ?_
    refine b_iload_n hO dX12_measures_24 2 rfl rfl ?_
    refine b_callVI hO mdX12_at mvX12_at w1469 (ci := 12) rfl rfl (by decide) kLY_0 (As := [.int _, .int _, .int _]) (st := [.ref _]) (ctX12_at n0 hO.2.2.2.2.2.2.1 _ _ _ _) (Nat.le_of_ble_eq_true rfl) rfl rfl (Nat.le_of_ble_eq_true rfl) dX12_measures_25 (fun z25 => ?_)
    refine b_iload_n hO dX12_measures_28 1 rfl rfl ?_
    refine b_iload_n hO dX12_measures_29 2 rfl rfl ?_
    refine b_icmp_ne hO dX12_measures_30 (tgt := 37) (by decide) ?_ ?_
    · refine b_aload_n hO dX12_measures_37 0 rfl rfl ?_
      refine b_get hO flX12_72 kLY_0 (v := .ref (ad 8)) rfl dX12_measures_38 ?_
      refine b_aload_n hO dX12_measures_41 0 rfl rfl ?_
      refine b_aload_n hO dX12_measures_42 0 rfl rfl ?_
      refine b_get hO flX12_115 kLY_0 (v := .int (gI _ 34)) rfl dX12_measures_43 ?_
      refine b_iload_n hO dX12_measures_46 1 rfl rfl ?_
      refine b_iload_n hO dX12_measures_47 2 rfl rfl ?_
      refine b_callVI hO mdX12_at mvX12_at w1469 (ci := 12) rfl rfl (by decide) kLY_0 (As := [.int _, .int _, .int _]) (st := [.ref _, .int _, .ref _]) (ctX12_at n0 hO.2.2.2.2.2.2.1 _ _ _ _) (Nat.le_of_ble_eq_true rfl) rfl rfl (Nat.le_of_ble_eq_true rfl) dX12_measures_48 (fun z48 => ?_)
      refine b_iald hO kLY_8 (n := 50) rfl dX12_measures_51 ?_
      refine b_if_le hO dX12_measures_52 (tgt := 73) (by decide) ?_ ?_
      · refine b_ldcw hO w1648 dX12_measures_73 ?_
        exact tfX12_measures_76 n0 hO k2 k9 hk2 hk9 _ _ _ _ _
      · refine b_aload_n hO dX12_measures_55 0 rfl rfl ?_
        refine b_get hO flX12_72 kLY_0 (v := .ref (ad 8)) rfl dX12_measures_56 ?_
        refine b_aload_n hO dX12_measures_59 0 rfl rfl ?_
        refine b_aload_n hO dX12_measures_60 0 rfl rfl ?_
        refine b_get hO flX12_115 kLY_0 (v := .int (gI _ 34)) rfl dX12_measures_61 ?_
        refine b_iload_n hO dX12_measures_64 1 rfl rfl ?_
        refine b_iload_n hO dX12_measures_65 2 rfl rfl ?_
        refine b_callVI hO mdX12_at mvX12_at w1469 (ci := 12) rfl rfl (by decide) kLY_0 (As := [.int _, .int _, .int _]) (st := [.ref _, .int _, .ref _]) (ctX12_at n0 hO.2.2.2.2.2.2.1 _ _ _ _) (Nat.le_of_ble_eq_true rfl) rfl rfl (Nat.le_of_ble_eq_true rfl) dX12_measures_66 (fun z66 => ?_)
        refine b_iald hO kLY_8 (n := 50) rfl dX12_measures_69 ?_
        refine b_goto hO dX12_measures_70 (tgt := 76) (by decide) ?_
        exact tfX12_measures_76 n0 hO k2 k9 hk2 hk9 _ _ _ _ _
    · refine b_iconst hO dX12_measures_33 ic_i_0 ?_
      refine b_goto hO dX12_measures_34 (tgt := 76) (by decide) ?_
      exact tfX12_measures_76 n0 hO k2 k9 hk2 hk9 _ _ _ _ _
theorem lX12_measures_9 (n0 : Nat) (hO : OKc p (rmL 2) s m args meth c LY D cy ad cX12_measures RX12 5 2 none) (k2 : Int32 → Mem → Option (Mem)) (hk2 : ∀ (x1 : Int32) (M : Mem), BL p l e (rmL 2) s m args below meth c LY D cy ad 5 (QV LY D cy ad) 2 [(0, .ref (ad 0)), (1, .int x1)] [] M (k2 x1 M)) : ∀ (w : Nat) (x1 : Int32) (x2 : Int32) (M : Mem), BL p l e (rmL 2) s m args below meth c LY D cy ad 5 (QV LY D cy ad) 9 [(0, .ref (ad 0)), (1, .int x1), (2, .int x2)] [] M (loopN (bX12_measures_9 n0 k2) (fun _ _ _ => none) w x1 x2 M) := by
  intro w
  induction w with
  | zero =>
    intros
    exact b_none
  | succ w ih =>
    intro x1 x2 M
    exact tbX12_measures_9 n0 hO k2 _ hk2 ih x1 x2 M
theorem tfX12_measures_9 (n0 : Nat) (hO : OKc p (rmL 2) s m args meth c LY D cy ad cX12_measures RX12 5 2 none) (k2 : Int32 → Mem → Option (Mem)) (hk2 : ∀ (x1 : Int32) (M : Mem), BL p l e (rmL 2) s m args below meth c LY D cy ad 5 (QV LY D cy ad) 2 [(0, .ref (ad 0)), (1, .int x1)] [] M (k2 x1 M)) (x1 : Int32) (x2 : Int32) (M : Mem) : BL p l e (rmL 2) s m args below meth c LY D cy ad 5 (QV LY D cy ad) 9 [(0, .ref (ad 0)), (1, .int x1), (2, .int x2)] [] M (fX12_measures_9 n0 k2 x1 x2 M) := lX12_measures_9 n0 hO k2 hk2 n0 x1 x2 M
theorem tfX12_measures_180 (n0 : Nat) (hO : OKc p (rmL 2) s m args meth c LY D cy ad cX12_measures RX12 5 2 none) (k91 : Int32 → Mem → Option (Mem)) (k98 : Int32 → Int32 → Mem → Option (Mem)) (k105 : Int32 → Int32 → Int32 → Mem → Option (Mem)) (hk91 : ∀ (x1 : Int32) (M : Mem), BL p l e (rmL 2) s m args below meth c LY D cy ad 5 (QV LY D cy ad) 91 [(0, .ref (ad 0)), (1, .int x1)] [] M (k91 x1 M)) (hk98 : ∀ (x1 : Int32) (x2 : Int32) (M : Mem), BL p l e (rmL 2) s m args below meth c LY D cy ad 5 (QV LY D cy ad) 98 [(0, .ref (ad 0)), (1, .int x1), (2, .int x2)] [] M (k98 x1 x2 M)) (hk105 : ∀ (x1 : Int32) (x2 : Int32) (x3 : Int32) (M : Mem), BL p l e (rmL 2) s m args below meth c LY D cy ad 5 (QV LY D cy ad) 105 [(0, .ref (ad 0)), (1, .int x1), (2, .int x2), (3, .int x3)] [] M (k105 x1 x2 x3 M)) (x1 : Int32) (x2 : Int32) (x3 : Int32) (M : Mem) : BL p l e (rmL 2) s m args below meth c LY D cy ad 5 (QV LY D cy ad) 180 [(0, .ref (ad 0)), (1, .int x1), (2, .int x2), (3, .int x3)] [] M (fX12_measures_180 n0 k91 k98 k105 x1 x2 x3 M) := by
  unfold fX12_measures_180
  refine b_iinc hO dX12_measures_180 3 rfl ic_i_1 (by decide) (lv' := [(3, .int _), (0, .ref _), (1, .int _), (2, .int _)]) rfl ?_
  refine b_goto hO dX12_measures_183 (tgt := 105) (by decide) ?_
  refine b_sub [1, 2, 3, 0] rfl ?_
  exact hk105 _ _ _ _
theorem tbX12_measures_105 (n0 : Nat) (hO : OKc p (rmL 2) s m args meth c LY D cy ad cX12_measures RX12 5 2 none) (k91 : Int32 → Mem → Option (Mem)) (k98 : Int32 → Int32 → Mem → Option (Mem)) (k105 : Int32 → Int32 → Int32 → Mem → Option (Mem)) (hk91 : ∀ (x1 : Int32) (M : Mem), BL p l e (rmL 2) s m args below meth c LY D cy ad 5 (QV LY D cy ad) 91 [(0, .ref (ad 0)), (1, .int x1)] [] M (k91 x1 M)) (hk98 : ∀ (x1 : Int32) (x2 : Int32) (M : Mem), BL p l e (rmL 2) s m args below meth c LY D cy ad 5 (QV LY D cy ad) 98 [(0, .ref (ad 0)), (1, .int x1), (2, .int x2)] [] M (k98 x1 x2 M)) (hk105 : ∀ (x1 : Int32) (x2 : Int32) (x3 : Int32) (M : Mem), BL p l e (rmL 2) s m args below meth c LY D cy ad 5 (QV LY D cy ad) 105 [(0, .ref (ad 0)), (1, .int x1), (2, .int x2), (3, .int x3)] [] M (k105 x1 x2 x3 M)) (x1 : Int32) (x2 : Int32) (x3 : Int32) (M : Mem) : BL p l e (rmL 2) s m args below meth c LY D cy ad 5 (QV LY D cy ad) 105 [(0, .ref (ad 0)), (1, .int x1), (2, .int x2), (3, .int x3)] [] M (bX12_measures_105 n0 k91 k98 k105 x1 x2 x3 M) := by
  unfold bX12_measures_105
  refine b_iload_n hO dX12_measures_105 3 rfl rfl ?_
  refine b_iconst hO dX12_measures_106 ic_i_5 ?_
  refine b_icmp_ge hO dX12_measures_107 (tgt := 186) (by decide) ?_ ?_
  · refine b_iinc hO dX12_measures_186 2 rfl ic_i_1 (by decide) (lv' := [(2, .int _), (0, .ref _), (1, .int _), (3, .int _)]) rfl ?_
    refine b_goto hO dX12_measures_189 (tgt := 98) (by decide) ?_
    refine b_sub [1, 2, 0] rfl ?_
    exact hk98 _ _ _
  · refine b_aload_n hO dX12_measures_110 0 rfl rfl ?_
    refine b_get hO flX12_75 kLY_0 (v := .ref (ad 9)) rfl dX12_measures_111 ?_
    refine b_aload_n hO dX12_measures_114 0 rfl rfl ?_
    refine b_aload_n hO dX12_measures_115 0 rfl rfl ?_
    refine b_get hO flX12_115 kLY_0 (v := .int (gI _ 34)) rfl dX12_measures_116 ?_
    refine b_iload_n hO dX12_measures_119 2 rfl rfl ?_
    refine b_iload_n hO dX12_measures_120 1 rfl rfl ?_
    refine b_callVI hO mdX12_at mvX12_at w1469 (ci := 12) rfl rfl (by decide) kLY_0 (As := [.int _, .int _, .int _]) (st := [.ref _]) (ctX12_at n0 hO.2.2.2.2.2.2.1 _ _ _ _) (Nat.le_of_ble_eq_true rfl) rfl rfl (Nat.le_of_ble_eq_true rfl) dX12_measures_121 (fun z121 => ?_)
    refine b_iald hO kLY_9 (n := 50) rfl dX12_measures_124 ?_
    refine b_aload_n hO dX12_measures_125 0 rfl rfl ?_
    refine b_get hO flX12_75 kLY_0 (v := .ref (ad 9)) rfl dX12_measures_126 ?_
    refine b_aload_n hO dX12_measures_129 0 rfl rfl ?_
    refine b_aload_n hO dX12_measures_130 0 rfl rfl ?_
    refine b_get hO flX12_115 kLY_0 (v := .int (gI _ 34)) rfl dX12_measures_131 ?_
    refine b_iload_n hO dX12_measures_134 1 rfl rfl ?_
    refine b_iload_n hO dX12_measures_135 3 rfl rfl ?_
    refine b_callVI hO mdX12_at mvX12_at w1469 (ci := 12) rfl rfl (by decide) kLY_0 (As := [.int _, .int _, .int _]) (st := [.ref _, .int _]) (ctX12_at n0 hO.2.2.2.2.2.2.1 _ _ _ _) (Nat.le_of_ble_eq_true rfl) rfl rfl (Nat.le_of_ble_eq_true rfl) dX12_measures_136 (fun z136 => ?_)
    refine b_iald hO kLY_9 (n := 50) rfl dX12_measures_139 ?_
    refine b_iadd hO dX12_measures_140 ?_
    refine b_topI (fun x4_141 => ?_)
    refine b_istore hO dX12_measures_141 (by decide) (lv' := [(4, .int _), (0, .ref _), (1, .int _), (2, .int _), (3, .int _)]) rfl ?_
    refine b_iload hO dX12_measures_143 0 rfl ?_
    refine b_aload_n hO dX12_measures_145 1 rfl rfl ?_
    refine b_get hO flX12_75 kLY_0 (v := .ref (ad 9)) rfl dX12_measures_146 ?_
    refine b_aload_n hO dX12_measures_149 1 rfl rfl ?_
    refine b_aload_n hO dX12_measures_150 1 rfl rfl ?_
    refine b_get hO flX12_115 kLY_0 (v := .int (gI _ 34)) rfl dX12_measures_151 ?_
    refine b_iload_n hO dX12_measures_154 3 rfl rfl ?_
    refine b_iload_n hO dX12_measures_155 4 rfl rfl ?_
    refine b_callVI hO mdX12_at mvX12_at w1469 (ci := 12) rfl rfl (by decide) kLY_0 (As := [.int _, .int _, .int _]) (st := [.ref _, .int _]) (ctX12_at n0 hO.2.2.2.2.2.2.1 _ _ _ _) (Nat.le_of_ble_eq_true rfl) rfl rfl (Nat.le_of_ble_eq_true rfl) dX12_measures_156 (fun z156 => ?_)
    refine b_iald hO kLY_9 (n := 50) rfl dX12_measures_159 ?_
    refine b_icmp_ge hO dX12_measures_160 (tgt := 180) (by decide) ?_ ?_
    · refine b_sub [1, 2, 3, 4] rfl ?_
      exact tfX12_measures_180 n0 hO k91 k98 k105 hk91 hk98 hk105 _ _ _ _
    · refine b_aload_n hO dX12_measures_163 1 rfl rfl ?_
      refine b_get hO flX12_75 kLY_0 (v := .ref (ad 9)) rfl dX12_measures_164 ?_
      refine b_aload_n hO dX12_measures_167 1 rfl rfl ?_
      refine b_aload_n hO dX12_measures_168 1 rfl rfl ?_
      refine b_get hO flX12_115 kLY_0 (v := .int (gI _ 34)) rfl dX12_measures_169 ?_
      refine b_iload_n hO dX12_measures_172 3 rfl rfl ?_
      refine b_iload_n hO dX12_measures_173 4 rfl rfl ?_
      refine b_callVI hO mdX12_at mvX12_at w1469 (ci := 12) rfl rfl (by decide) kLY_0 (As := [.int _, .int _, .int _]) (st := [.ref _]) (ctX12_at n0 hO.2.2.2.2.2.2.1 _ _ _ _) (Nat.le_of_ble_eq_true rfl) rfl rfl (Nat.le_of_ble_eq_true rfl) dX12_measures_174 (fun z174 => ?_)
      refine b_iload hO dX12_measures_177 0 rfl ?_
      refine b_iast hO kLY_9 (n := 50) rfl dX12_measures_179 ?_
      refine b_sub [1, 2, 3, 4] rfl ?_
      exact tfX12_measures_180 n0 hO k91 k98 k105 hk91 hk98 hk105 _ _ _ _
theorem lX12_measures_105 (n0 : Nat) (hO : OKc p (rmL 2) s m args meth c LY D cy ad cX12_measures RX12 5 2 none) (k91 : Int32 → Mem → Option (Mem)) (k98 : Int32 → Int32 → Mem → Option (Mem)) (hk91 : ∀ (x1 : Int32) (M : Mem), BL p l e (rmL 2) s m args below meth c LY D cy ad 5 (QV LY D cy ad) 91 [(0, .ref (ad 0)), (1, .int x1)] [] M (k91 x1 M)) (hk98 : ∀ (x1 : Int32) (x2 : Int32) (M : Mem), BL p l e (rmL 2) s m args below meth c LY D cy ad 5 (QV LY D cy ad) 98 [(0, .ref (ad 0)), (1, .int x1), (2, .int x2)] [] M (k98 x1 x2 M)) : ∀ (w : Nat) (x1 : Int32) (x2 : Int32) (x3 : Int32) (M : Mem), BL p l e (rmL 2) s m args below meth c LY D cy ad 5 (QV LY D cy ad) 105 [(0, .ref (ad 0)), (1, .int x1), (2, .int x2), (3, .int x3)] [] M (loopN (bX12_measures_105 n0 k91 k98) (fun _ _ _ _ => none) w x1 x2 x3 M) := by
  intro w
  induction w with
  | zero =>
    intros
    exact b_none
  | succ w ih =>
    intro x1 x2 x3 M
    exact tbX12_measures_105 n0 hO k91 k98 _ hk91 hk98 ih x1 x2 x3 M
theorem tfX12_measures_105 (n0 : Nat) (hO : OKc p (rmL 2) s m args meth c LY D cy ad cX12_measures RX12 5 2 none) (k91 : Int32 → Mem → Option (Mem)) (k98 : Int32 → Int32 → Mem → Option (Mem)) (hk91 : ∀ (x1 : Int32) (M : Mem), BL p l e (rmL 2) s m args below meth c LY D cy ad 5 (QV LY D cy ad) 91 [(0, .ref (ad 0)), (1, .int x1)] [] M (k91 x1 M)) (hk98 : ∀ (x1 : Int32) (x2 : Int32) (M : Mem), BL p l e (rmL 2) s m args below meth c LY D cy ad 5 (QV LY D cy ad) 98 [(0, .ref (ad 0)), (1, .int x1), (2, .int x2)] [] M (k98 x1 x2 M)) (x1 : Int32) (x2 : Int32) (x3 : Int32) (M : Mem) : BL p l e (rmL 2) s m args below meth c LY D cy ad 5 (QV LY D cy ad) 105 [(0, .ref (ad 0)), (1, .int x1), (2, .int x2), (3, .int x3)] [] M (fX12_measures_105 n0 k91 k98 x1 x2 x3 M) := lX12_measures_105 n0 hO k91 k98 hk91 hk98 n0 x1 x2 x3 M
theorem tbX12_measures_98 (n0 : Nat) (hO : OKc p (rmL 2) s m args meth c LY D cy ad cX12_measures RX12 5 2 none) (k91 : Int32 → Mem → Option (Mem)) (k98 : Int32 → Int32 → Mem → Option (Mem)) (hk91 : ∀ (x1 : Int32) (M : Mem), BL p l e (rmL 2) s m args below meth c LY D cy ad 5 (QV LY D cy ad) 91 [(0, .ref (ad 0)), (1, .int x1)] [] M (k91 x1 M)) (hk98 : ∀ (x1 : Int32) (x2 : Int32) (M : Mem), BL p l e (rmL 2) s m args below meth c LY D cy ad 5 (QV LY D cy ad) 98 [(0, .ref (ad 0)), (1, .int x1), (2, .int x2)] [] M (k98 x1 x2 M)) (x1 : Int32) (x2 : Int32) (M : Mem) : BL p l e (rmL 2) s m args below meth c LY D cy ad 5 (QV LY D cy ad) 98 [(0, .ref (ad 0)), (1, .int x1), (2, .int x2)] [] M (bX12_measures_98 n0 k91 k98 x1 x2 M) := by
  unfold bX12_measures_98
  refine b_iload_n hO dX12_measures_98 2 rfl rfl ?_
  refine b_iconst hO dX12_measures_99 ic_i_5 ?_
  refine b_icmp_ge hO dX12_measures_100 (tgt := 192) (by decide) ?_ ?_
  · refine b_iinc hO dX12_measures_192 1 rfl ic_i_1 (by decide) (lv' := [(1, .int _), (0, .ref _), (2, .int _)]) rfl ?_
    refine b_goto hO dX12_measures_195 (tgt := 91) (by decide) ?_
    refine b_sub [1, 0] rfl ?_
    exact hk91 _ _
  · refine b_iconst hO dX12_measures_103 ic_i_0 ?_
    refine b_istore_n hO dX12_measures_104 rfl (by decide) (lv' := [(3, .int _), (0, .ref _), (1, .int _), (2, .int _)]) rfl ?_
    refine b_sub [1, 2, 3, 0] rfl ?_
    exact tfX12_measures_105 n0 hO k91 k98 hk91 hk98 _ _ _ _
theorem lX12_measures_98 (n0 : Nat) (hO : OKc p (rmL 2) s m args meth c LY D cy ad cX12_measures RX12 5 2 none) (k91 : Int32 → Mem → Option (Mem)) (hk91 : ∀ (x1 : Int32) (M : Mem), BL p l e (rmL 2) s m args below meth c LY D cy ad 5 (QV LY D cy ad) 91 [(0, .ref (ad 0)), (1, .int x1)] [] M (k91 x1 M)) : ∀ (w : Nat) (x1 : Int32) (x2 : Int32) (M : Mem), BL p l e (rmL 2) s m args below meth c LY D cy ad 5 (QV LY D cy ad) 98 [(0, .ref (ad 0)), (1, .int x1), (2, .int x2)] [] M (loopN (bX12_measures_98 n0 k91) (fun _ _ _ => none) w x1 x2 M) := by
  intro w
  induction w with
  | zero =>
    intros
    exact b_none
  | succ w ih =>
    intro x1 x2 M
    exact tbX12_measures_98 n0 hO k91 _ hk91 ih x1 x2 M
theorem tfX12_measures_98 (n0 : Nat) (hO : OKc p (rmL 2) s m args meth c LY D cy ad cX12_measures RX12 5 2 none) (k91 : Int32 → Mem → Option (Mem)) (hk91 : ∀ (x1 : Int32) (M : Mem), BL p l e (rmL 2) s m args below meth c LY D cy ad 5 (QV LY D cy ad) 91 [(0, .ref (ad 0)), (1, .int x1)] [] M (k91 x1 M)) (x1 : Int32) (x2 : Int32) (M : Mem) : BL p l e (rmL 2) s m args below meth c LY D cy ad 5 (QV LY D cy ad) 98 [(0, .ref (ad 0)), (1, .int x1), (2, .int x2)] [] M (fX12_measures_98 n0 k91 x1 x2 M) := lX12_measures_98 n0 hO k91 hk91 n0 x1 x2 M
theorem tbX12_measures_91 (n0 : Nat) (hO : OKc p (rmL 2) s m args meth c LY D cy ad cX12_measures RX12 5 2 none) (k91 : Int32 → Mem → Option (Mem)) (hk91 : ∀ (x1 : Int32) (M : Mem), BL p l e (rmL 2) s m args below meth c LY D cy ad 5 (QV LY D cy ad) 91 [(0, .ref (ad 0)), (1, .int x1)] [] M (k91 x1 M)) (x1 : Int32) (M : Mem) : BL p l e (rmL 2) s m args below meth c LY D cy ad 5 (QV LY D cy ad) 91 [(0, .ref (ad 0)), (1, .int x1)] [] M (bX12_measures_91 n0 k91 x1 M) := by
  unfold bX12_measures_91
  refine b_iload_n hO dX12_measures_91 1 rfl rfl ?_
  refine b_iconst hO dX12_measures_92 ic_i_5 ?_
  refine b_icmp_ge hO dX12_measures_93 (tgt := 198) (by decide) ?_ ?_
  · exact b_vret hO dX12_measures_198
  · refine b_iconst hO dX12_measures_96 ic_i_0 ?_
    refine b_istore_n hO dX12_measures_97 rfl (by decide) (lv' := [(2, .int _), (0, .ref _), (1, .int _)]) rfl ?_
    refine b_sub [1, 2, 0] rfl ?_
    exact tfX12_measures_98 n0 hO k91 hk91 _ _ _
theorem lX12_measures_91 (n0 : Nat) (hO : OKc p (rmL 2) s m args meth c LY D cy ad cX12_measures RX12 5 2 none) : ∀ (w : Nat) (x1 : Int32) (M : Mem), BL p l e (rmL 2) s m args below meth c LY D cy ad 5 (QV LY D cy ad) 91 [(0, .ref (ad 0)), (1, .int x1)] [] M (loopN (bX12_measures_91 n0) (fun _ _ => none) w x1 M) := by
  intro w
  induction w with
  | zero =>
    intros
    exact b_none
  | succ w ih =>
    intro x1 M
    exact tbX12_measures_91 n0 hO _ ih x1 M
theorem tfX12_measures_91 (n0 : Nat) (hO : OKc p (rmL 2) s m args meth c LY D cy ad cX12_measures RX12 5 2 none) (x1 : Int32) (M : Mem) : BL p l e (rmL 2) s m args below meth c LY D cy ad 5 (QV LY D cy ad) 91 [(0, .ref (ad 0)), (1, .int x1)] [] M (fX12_measures_91 n0 x1 M) := lX12_measures_91 n0 hO n0 x1 M
theorem tbX12_measures_2 (n0 : Nat) (hO : OKc p (rmL 2) s m args meth c LY D cy ad cX12_measures RX12 5 2 none) (k2 : Int32 → Mem → Option (Mem)) (hk2 : ∀ (x1 : Int32) (M : Mem), BL p l e (rmL 2) s m args below meth c LY D cy ad 5 (QV LY D cy ad) 2 [(0, .ref (ad 0)), (1, .int x1)] [] M (k2 x1 M)) (x1 : Int32) (M : Mem) : BL p l e (rmL 2) s m args below meth c LY D cy ad 5 (QV LY D cy ad) 2 [(0, .ref (ad 0)), (1, .int x1)] [] M (bX12_measures_2 n0 k2 x1 M) := by
  unfold bX12_measures_2
  refine b_iload_n hO dX12_measures_2 1 rfl rfl ?_
  refine b_iconst hO dX12_measures_3 ic_i_5 ?_
  refine b_icmp_ge hO dX12_measures_4 (tgt := 89) (by decide) ?_ ?_
  · refine b_iconst hO dX12_measures_89 ic_i_0 ?_
    refine b_istore_n hO dX12_measures_90 rfl (by decide) (lv' := [(1, .int _), (0, .ref _)]) rfl ?_
    refine b_sub [1, 0] rfl ?_
    exact tfX12_measures_91 n0 hO _ _
  · refine b_iconst hO dX12_measures_7 ic_i_0 ?_
    refine b_istore_n hO dX12_measures_8 rfl (by decide) (lv' := [(2, .int _), (0, .ref _), (1, .int _)]) rfl ?_
    refine b_sub [1, 2, 0] rfl ?_
    exact tfX12_measures_9 n0 hO k2 hk2 _ _ _
theorem lX12_measures_2 (n0 : Nat) (hO : OKc p (rmL 2) s m args meth c LY D cy ad cX12_measures RX12 5 2 none) : ∀ (w : Nat) (x1 : Int32) (M : Mem), BL p l e (rmL 2) s m args below meth c LY D cy ad 5 (QV LY D cy ad) 2 [(0, .ref (ad 0)), (1, .int x1)] [] M (loopN (bX12_measures_2 n0) (fun _ _ => none) w x1 M) := by
  intro w
  induction w with
  | zero =>
    intros
    exact b_none
  | succ w ih =>
    intro x1 M
    exact tbX12_measures_2 n0 hO _ ih x1 M
theorem tfX12_measures_2 (n0 : Nat) (hO : OKc p (rmL 2) s m args meth c LY D cy ad cX12_measures RX12 5 2 none) (x1 : Int32) (M : Mem) : BL p l e (rmL 2) s m args below meth c LY D cy ad 5 (QV LY D cy ad) 2 [(0, .ref (ad 0)), (1, .int x1)] [] M (fX12_measures_2 n0 x1 M) := lX12_measures_2 n0 hO n0 x1 M
theorem tfX12_measures (n0 : Nat) (hO : OKc p (rmL 2) s m args meth c LY D cy ad cX12_measures RX12 5 2 none) (M : Mem) : BL p l e (rmL 2) s m args below meth c LY D cy ad 5 (QV LY D cy ad) 0 [(0, .ref (ad 0))] [] M (fX12_measures n0 M) := by
  unfold fX12_measures
  refine b_iconst hO dX12_measures_0 ic_i_0 ?_
  refine b_istore_n hO dX12_measures_1 rfl (by decide) (lv' := [(1, .int _), (0, .ref _)]) rfl ?_
  refine b_sub [1, 0] rfl ?_
  exact tfX12_measures_2 n0 hO _ _
theorem ctX12_measures (n0 : Nat) (hI : Inj LY ad) (M : Mem) : CT l LY D cy ad yX12_measures cX12_measures 5 none 2 (QV LY D cy ad) [.ref (ad 0)] M (fX12_measures n0 M) :=
  CT.mk LYok hI (by decide) (Nat.le_of_ble_eq_true rfl) (fun hO => tfX12_measures n0 hO M)
/-! X12_lays -/
def fX12_lays_120 (n0 : Nat) (u1 : Int32) (u2 : Int32) (M : Mem) : Option (Mem) :=
  if oob u1 10 then none else
  some (sA M 35 (Int32.toNatClampNeg u1) u2)
def fX12_lays_90 (n0 : Nat) (x3 : Int32) (u1 : Int32) (u2 : Int32) (M : Mem) : Option (Mem) :=
  if oob u1 10 then none else
  bnd (sA M 35 (Int32.toNatClampNeg u1) u2) fun M90 =>
  if x3 = (-1 : Int32) then
    fX12_lays_120 n0 (6 : Int32) (0 : Int32) M90
  else
    if oob (((6 : Int32) * (gI M90 13)) + x3) 12 then none else
    fX12_lays_120 n0 (6 : Int32) (gA M90 4 (Int32.toNatClampNeg (((6 : Int32) * (gI M90 13)) + x3))) M90
def fX12_lays_39 (n0 : Nat) (x1 : Int32) (x2 : Int32) (x3 : Int32) (u1 : Int32) (u2 : Int32) (M : Mem) : Option (Mem) :=
  if oob u1 10 then none else
  bnd (sA M 35 (Int32.toNatClampNeg u1) u2) fun M39 =>
  if oob (((5 : Int32) * x1) + x2) 110 then none else
  if oob (2 : Int32) 10 then none else
  bnd (sA M39 35 (Int32.toNatClampNeg (2 : Int32)) (gA M39 30 (Int32.toNatClampNeg (((5 : Int32) * x1) + x2)))) fun M55 =>
  if oob (3 : Int32) 10 then none else
  bnd (sA M55 35 (Int32.toNatClampNeg (3 : Int32)) x2) fun M62 =>
  if oob x1 22 then none else
  if oob (4 : Int32) 10 then none else
  bnd (sA M62 35 (Int32.toNatClampNeg (4 : Int32)) (gA M62 28 (Int32.toNatClampNeg x1))) fun M74 =>
  if x3 = (-1 : Int32) then
    fX12_lays_90 n0 x3 (5 : Int32) (1 : Int32) M74
  else
    fX12_lays_90 n0 x3 (5 : Int32) (0 : Int32) M74
def fX12_lays (n0 : Nat) (x1 : Int32) (x2 : Int32) (M : Mem) : Option (Mem) :=
  if oob (((5 : Int32) * x1) + x2) 110 then none else
  bnd (gA M 29 (Int32.toNatClampNeg (((5 : Int32) * x1) + x2))) fun x3_10 =>
  if x3_10 = (-1 : Int32) then
    fX12_lays_39 n0 x1 x2 x3_10 (1 : Int32) (0 : Int32) M
  else
    if oob (((6 : Int32) * (gI M 13)) + x3_10) 12 then none else
    fX12_lays_39 n0 x1 x2 x3_10 (1 : Int32) (gA M 3 (Int32.toNatClampNeg (((6 : Int32) * (gI M 13)) + x3_10))) M
theorem tfX12_lays_120 (n0 : Nat) (hO : OKc p (rmL 1) s m args meth c LY D cy ad cX12_lays RX12 4 1 none) (u1 : Int32) (u2 : Int32) (M : Mem) : BL p l e (rmL 1) s m args below meth c LY D cy ad 4 (QV LY D cy ad) 120 [] [.int u2, .int u1, .ref (ad 35)] M (fX12_lays_120 n0 u1 u2 M) := by
  unfold fX12_lays_120
  refine b_iast hO kLY_35 (n := 10) rfl dX12_lays_120 ?_
  exact b_vret hO dX12_lays_121
theorem tfX12_lays_90 (n0 : Nat) (hO : OKc p (rmL 1) s m args meth c LY D cy ad cX12_lays RX12 4 1 none) (x3 : Int32) (u1 : Int32) (u2 : Int32) (M : Mem) : BL p l e (rmL 1) s m args below meth c LY D cy ad 4 (QV LY D cy ad) 90 [(0, .ref (ad 0)), (3, .int x3)] [.int u2, .int u1, .ref (ad 35)] M (fX12_lays_90 n0 x3 u1 u2 M) := by
  unfold fX12_lays_90
  refine b_iast hO kLY_35 (n := 10) rfl dX12_lays_90 ?_
  refine b_bnd (fun M90 => ?_)
  refine b_aload_n hO dX12_lays_91 0 rfl rfl ?_
  refine b_get hO flX12_186 kLY_0 (v := .ref (ad 35)) rfl dX12_lays_92 ?_
  refine b_bipush hO dX12_lays_95 ic_b_6 ?_
  refine b_iload_n hO dX12_lays_97 1 rfl rfl ?_
  refine b_iconst hO dX12_lays_98 ic_i_m1 ?_
  refine b_icmp_ne hO dX12_lays_99 (tgt := 106) (by decide) ?_ ?_
  · refine b_aload_n hO dX12_lays_106 0 rfl rfl ?_
    refine b_get hO flX12_60 kLY_0 (v := .ref (ad 4)) rfl dX12_lays_107 ?_
    refine b_bipush hO dX12_lays_110 ic_b_6 ?_
    refine b_aload_n hO dX12_lays_112 0 rfl rfl ?_
    refine b_get hO flX12_51 kLY_0 (v := .int (gI _ 13)) rfl dX12_lays_113 ?_
    refine b_imul hO dX12_lays_116 ?_
    refine b_iload_n hO dX12_lays_117 1 rfl rfl ?_
    refine b_iadd hO dX12_lays_118 ?_
    refine b_iald hO kLY_4 (n := 12) rfl dX12_lays_119 ?_
    refine b_sub [] rfl ?_
    exact tfX12_lays_120 n0 hO _ _ _
  · refine b_iconst hO dX12_lays_102 ic_i_0 ?_
    refine b_goto hO dX12_lays_103 (tgt := 120) (by decide) ?_
    refine b_sub [] rfl ?_
    exact tfX12_lays_120 n0 hO _ _ _
theorem tfX12_lays_39 (n0 : Nat) (hO : OKc p (rmL 1) s m args meth c LY D cy ad cX12_lays RX12 4 1 none) (x1 : Int32) (x2 : Int32) (x3 : Int32) (u1 : Int32) (u2 : Int32) (M : Mem) : BL p l e (rmL 1) s m args below meth c LY D cy ad 4 (QV LY D cy ad) 39 [(0, .ref (ad 0)), (1, .int x1), (2, .int x2), (3, .int x3)] [.int u2, .int u1, .ref (ad 35)] M (fX12_lays_39 n0 x1 x2 x3 u1 u2 M) := by
  unfold fX12_lays_39
  refine b_iast hO kLY_35 (n := 10) rfl dX12_lays_39 ?_
  refine b_bnd (fun M39 => ?_)
  refine b_aload_n hO dX12_lays_40 0 rfl rfl ?_
  refine b_get hO flX12_186 kLY_0 (v := .ref (ad 35)) rfl dX12_lays_41 ?_
  refine b_iconst hO dX12_lays_44 ic_i_2 ?_
  refine b_aload_n hO dX12_lays_45 0 rfl rfl ?_
  refine b_get hO flX12_162 kLY_0 (v := .ref (ad 30)) rfl dX12_lays_46 ?_
  refine b_iconst hO dX12_lays_49 ic_i_5 ?_
  refine b_iload_n hO dX12_lays_50 1 rfl rfl ?_
  refine b_imul hO dX12_lays_51 ?_
  refine b_iload_n hO dX12_lays_52 2 rfl rfl ?_
  refine b_iadd hO dX12_lays_53 ?_
  refine b_iald hO kLY_30 (n := 110) rfl dX12_lays_54 ?_
  refine b_iast hO kLY_35 (n := 10) rfl dX12_lays_55 ?_
  refine b_bnd (fun M55 => ?_)
  refine b_aload_n hO dX12_lays_56 0 rfl rfl ?_
  refine b_get hO flX12_186 kLY_0 (v := .ref (ad 35)) rfl dX12_lays_57 ?_
  refine b_iconst hO dX12_lays_60 ic_i_3 ?_
  refine b_iload_n hO dX12_lays_61 2 rfl rfl ?_
  refine b_iast hO kLY_35 (n := 10) rfl dX12_lays_62 ?_
  refine b_bnd (fun M62 => ?_)
  refine b_aload_n hO dX12_lays_63 0 rfl rfl ?_
  refine b_get hO flX12_186 kLY_0 (v := .ref (ad 35)) rfl dX12_lays_64 ?_
  refine b_iconst hO dX12_lays_67 ic_i_4 ?_
  refine b_aload_n hO dX12_lays_68 0 rfl rfl ?_
  refine b_get hO flX12_156 kLY_0 (v := .ref (ad 28)) rfl dX12_lays_69 ?_
  refine b_iload_n hO dX12_lays_72 1 rfl rfl ?_
  refine b_iald hO kLY_28 (n := 22) rfl dX12_lays_73 ?_
  refine b_iast hO kLY_35 (n := 10) rfl dX12_lays_74 ?_
  refine b_bnd (fun M74 => ?_)
  refine b_aload_n hO dX12_lays_75 0 rfl rfl ?_
  refine b_get hO flX12_186 kLY_0 (v := .ref (ad 35)) rfl dX12_lays_76 ?_
  refine b_iconst hO dX12_lays_79 ic_i_5 ?_
  refine b_iload_n hO dX12_lays_80 3 rfl rfl ?_
  refine b_iconst hO dX12_lays_81 ic_i_m1 ?_
  refine b_icmp_ne hO dX12_lays_82 (tgt := 89) (by decide) ?_ ?_
  · refine b_iconst hO dX12_lays_89 ic_i_0 ?_
    refine b_sub [0, 3] rfl ?_
    exact tfX12_lays_90 n0 hO _ _ _ _
  · refine b_iconst hO dX12_lays_85 ic_i_1 ?_
    refine b_goto hO dX12_lays_86 (tgt := 90) (by decide) ?_
    refine b_sub [0, 3] rfl ?_
    exact tfX12_lays_90 n0 hO _ _ _ _
theorem tfX12_lays (n0 : Nat) (hO : OKc p (rmL 1) s m args meth c LY D cy ad cX12_lays RX12 4 1 none) (x1 : Int32) (x2 : Int32) (M : Mem) : BL p l e (rmL 1) s m args below meth c LY D cy ad 4 (QV LY D cy ad) 0 [(0, .ref (ad 0)), (1, .int x1), (2, .int x2)] [] M (fX12_lays n0 x1 x2 M) := by
  unfold fX12_lays
  refine b_aload_n hO dX12_lays_0 0 rfl rfl ?_
  refine b_get hO flX12_159 kLY_0 (v := .ref (ad 29)) rfl dX12_lays_1 ?_
  refine b_iconst hO dX12_lays_4 ic_i_5 ?_
  refine b_iload_n hO dX12_lays_5 1 rfl rfl ?_
  refine b_imul hO dX12_lays_6 ?_
  refine b_iload_n hO dX12_lays_7 2 rfl rfl ?_
  refine b_iadd hO dX12_lays_8 ?_
  refine b_iald hO kLY_29 (n := 110) rfl dX12_lays_9 ?_
  refine b_topI (fun x3_10 => ?_)
  refine b_istore_n hO dX12_lays_10 rfl (by decide) (lv' := [(3, .int _), (0, .ref _), (1, .int _), (2, .int _)]) rfl ?_
  refine b_aload_n hO dX12_lays_11 1 rfl rfl ?_
  refine b_get hO flX12_186 kLY_0 (v := .ref (ad 35)) rfl dX12_lays_12 ?_
  refine b_iconst hO dX12_lays_15 ic_i_1 ?_
  refine b_iload_n hO dX12_lays_16 0 rfl rfl ?_
  refine b_iconst hO dX12_lays_17 ic_i_m1 ?_
  refine b_icmp_ne hO dX12_lays_18 (tgt := 25) (by decide) ?_ ?_
  · refine b_aload_n hO dX12_lays_25 1 rfl rfl ?_
    refine b_get hO flX12_57 kLY_0 (v := .ref (ad 3)) rfl dX12_lays_26 ?_
    refine b_bipush hO dX12_lays_29 ic_b_6 ?_
    refine b_aload_n hO dX12_lays_31 1 rfl rfl ?_
    refine b_get hO flX12_51 kLY_0 (v := .int (gI _ 13)) rfl dX12_lays_32 ?_
    refine b_imul hO dX12_lays_35 ?_
    refine b_iload_n hO dX12_lays_36 0 rfl rfl ?_
    refine b_iadd hO dX12_lays_37 ?_
    refine b_iald hO kLY_3 (n := 12) rfl dX12_lays_38 ?_
    refine b_sub [1, 2, 3, 0] rfl ?_
    exact tfX12_lays_39 n0 hO _ _ _ _ _ _
  · refine b_iconst hO dX12_lays_21 ic_i_0 ?_
    refine b_goto hO dX12_lays_22 (tgt := 39) (by decide) ?_
    refine b_sub [1, 2, 3, 0] rfl ?_
    exact tfX12_lays_39 n0 hO _ _ _ _ _ _
theorem ctX12_lays (n0 : Nat) (hI : Inj LY ad) (x1 : Int32) (x2 : Int32) (M : Mem) : CT l LY D cy ad yX12_lays cX12_lays 4 none 1 (QV LY D cy ad) [.ref (ad 0), .int x1, .int x2] M (fX12_lays n0 x1 x2 M) :=
  CT.mk LYok hI (by decide) (Nat.le_of_ble_eq_true rfl) (fun hO => tfX12_lays n0 hO x1 x2 M)
/-! X12_isTold -/
def fX12_isTold (n0 : Nat) (x1 : Int32) (M : Mem) : Option (Int32 × Mem) :=
  if oob (((2 : Int32) * (gI M 13)) + x1) 4 then none else
  if (gA M 14 (Int32.toNatClampNeg (((2 : Int32) * (gI M 13)) + x1))) = (-1 : Int32) then
    some ((0 : Int32), M)
  else
    some ((1 : Int32), M)
theorem tfX12_isTold (n0 : Nat) (hO : OKc p (rmL 1) s m args meth c LY D cy ad cX12_isTold RX12 2 1 (some .boolean)) (x1 : Int32) (M : Mem) : BL p l e (rmL 1) s m args below meth c LY D cy ad 2 (QI LY D cy ad) 0 [(0, .ref (ad 0)), (1, .int x1)] [] M (fX12_isTold n0 x1 M) := by
  unfold fX12_isTold
  refine b_aload_n hO dX12_isTold_0 0 rfl rfl ?_
  refine b_get hO flX12_90 kLY_0 (v := .ref (ad 14)) rfl dX12_isTold_1 ?_
  refine b_iconst hO dX12_isTold_4 ic_i_2 ?_
  refine b_aload_n hO dX12_isTold_5 0 rfl rfl ?_
  refine b_get hO flX12_51 kLY_0 (v := .int (gI _ 13)) rfl dX12_isTold_6 ?_
  refine b_imul hO dX12_isTold_9 ?_
  refine b_iload_n hO dX12_isTold_10 1 rfl rfl ?_
  refine b_iadd hO dX12_isTold_11 ?_
  refine b_iald hO kLY_14 (n := 4) rfl dX12_isTold_12 ?_
  refine b_iconst hO dX12_isTold_13 ic_i_m1 ?_
  refine b_icmp_eq hO dX12_isTold_14 (tgt := 21) (by decide) ?_ ?_
  · refine b_iconst hO dX12_isTold_21 ic_i_0 ?_
    exact b_zretc hO (Or.inl rfl) dX12_isTold_22
  · refine b_iconst hO dX12_isTold_17 ic_i_1 ?_
    refine b_goto hO dX12_isTold_18 (tgt := 22) (by decide) ?_
    exact b_zretc hO (Or.inr rfl) dX12_isTold_22
theorem ctX12_isTold (n0 : Nat) (hI : Inj LY ad) (x1 : Int32) (M : Mem) : CT l LY D cy ad yX12_isTold cX12_isTold 2 (some .boolean) 1 (QI LY D cy ad) [.ref (ad 0), .int x1] M (fX12_isTold n0 x1 M) :=
  CT.mk LYok hI (by decide) (Nat.le_of_ble_eq_true rfl) (fun hO => tfX12_isTold n0 hO x1 M)
/-! X12_within -/
def fX12_within (n0 : Nat) (y0 : Int64) (M : Mem) : Option (Int64 × Mem) :=
  if (lg_cmp y0 (1000000 : Int64)) ≤ 0 then
    if 0 ≤ (lg_cmp y0 (-1000000 : Int64)) then
      some (y0, M)
    else
      some ((-1000000 : Int64), M)
  else
    some ((1000000 : Int64), M)
theorem tfX12_within (n0 : Nat) (hO : OKc p (rmL 1) s m args meth c LY D cy ad cX12_within RX12 2 1 (some .long)) (y0 : Int64) (M : Mem) : BL p l e (rmL 1) s m args below meth c LY D cy ad 2 (QL LY D cy ad) 0 [(0, .long y0)] [] M (fX12_within n0 y0 M) := by
  unfold fX12_within
  refine b_lload_n hO dX12_within_0 0 rfl rfl ?_
  refine b_ldc2 hO w1679 dX12_within_1 ?_
  refine b_lcmp hO dX12_within_4 ?_
  refine b_if_le hO dX12_within_5 (tgt := 14) (by decide) ?_ ?_
  · refine b_lload_n hO dX12_within_14 0 rfl rfl ?_
    refine b_ldc2 hO w1680 dX12_within_15 ?_
    refine b_lcmp hO dX12_within_18 ?_
    refine b_if_ge hO dX12_within_19 (tgt := 28) (by decide) ?_ ?_
    · refine b_lload_n hO dX12_within_28 0 rfl rfl ?_
      exact b_lret hO dX12_within_29
    · refine b_ldc2 hO w1680 dX12_within_22 ?_
      refine b_goto hO dX12_within_25 (tgt := 29) (by decide) ?_
      exact b_lret hO dX12_within_29
  · refine b_ldc2 hO w1679 dX12_within_8 ?_
    refine b_goto hO dX12_within_11 (tgt := 29) (by decide) ?_
    exact b_lret hO dX12_within_29
theorem ctX12_within (n0 : Nat) (hI : Inj LY ad) (y0 : Int64) (M : Mem) : CT l LY D cy ad yX12_within cX12_within 2 (some .long) 1 (QL LY D cy ad) [.long y0] M (fX12_within n0 y0 M) :=
  CT.mk LYok hI (by decide) (Nat.le_of_ble_eq_true rfl) (fun hO => tfX12_within n0 hO y0 M)
/-! X12_floor -/
def fX12_floor_43 (n0 : Nat) (y4 : Int64) (u0 : Int32) (u1 : Int32) (M : Mem) : Option (Int64 × Mem) :=
  if u0 = u1 then
    some (y4, M)
  else
    some ((y4 - (1 : Int64)), M)
def fX12_floor_32 (n0 : Nat) (y2 : Int64) (y4 : Int64) (u0 : Int32) (M : Mem) : Option (Int64 × Mem) :=
  if 0 ≤ (lg_cmp y2 (0 : Int64)) then
    fX12_floor_43 n0 y4 u0 (0 : Int32) M
  else
    fX12_floor_43 n0 y4 u0 (1 : Int32) M
def fX12_floor (n0 : Nat) (y0 : Int64) (y2 : Int64) (M : Mem) : Option (Int64 × Mem) :=
  if (lg_cmp y2 (0 : Int64)) = 0 then
    some ((0 : Int64), M)
  else
    if y2 = 0 then none else
    bnd (y0 / y2) fun y4_11 =>
    if y2 = 0 then none else
    if (lg_cmp (rem64 y0 y2) (0 : Int64)) = 0 then
      some (y4_11, M)
    else
      if 0 ≤ (lg_cmp y0 (0 : Int64)) then
        fX12_floor_32 n0 y2 y4_11 (0 : Int32) M
      else
        fX12_floor_32 n0 y2 y4_11 (1 : Int32) M
theorem tfX12_floor_43 (n0 : Nat) (hO : OKc p (rmL 1) s m args meth c LY D cy ad cX12_floor RX12 6 1 (some .long)) (y4 : Int64) (u0 : Int32) (u1 : Int32) (M : Mem) : BL p l e (rmL 1) s m args below meth c LY D cy ad 6 (QL LY D cy ad) 43 [(4, .long y4)] [.int u1, .int u0] M (fX12_floor_43 n0 y4 u0 u1 M) := by
  unfold fX12_floor_43
  refine b_icmp_eq hO dX12_floor_43 (tgt := 53) (by decide) ?_ ?_
  · refine b_lload hO dX12_floor_53 0 rfl ?_
    exact b_lret hO dX12_floor_55
  · refine b_lload hO dX12_floor_46 0 rfl ?_
    refine b_lconst hO dX12_floor_48 (v := 1) rfl ?_
    refine b_lsub hO dX12_floor_49 ?_
    refine b_goto hO dX12_floor_50 (tgt := 55) (by decide) ?_
    exact b_lret hO dX12_floor_55
theorem tfX12_floor_32 (n0 : Nat) (hO : OKc p (rmL 1) s m args meth c LY D cy ad cX12_floor RX12 6 1 (some .long)) (y2 : Int64) (y4 : Int64) (u0 : Int32) (M : Mem) : BL p l e (rmL 1) s m args below meth c LY D cy ad 6 (QL LY D cy ad) 32 [(2, .long y2), (4, .long y4)] [.int u0] M (fX12_floor_32 n0 y2 y4 u0 M) := by
  unfold fX12_floor_32
  refine b_lload_n hO dX12_floor_32 0 rfl rfl ?_
  refine b_lconst hO dX12_floor_33 (v := 0) rfl ?_
  refine b_lcmp hO dX12_floor_34 ?_
  refine b_if_ge hO dX12_floor_35 (tgt := 42) (by decide) ?_ ?_
  · refine b_iconst hO dX12_floor_42 ic_i_0 ?_
    refine b_sub [1] rfl ?_
    exact tfX12_floor_43 n0 hO _ _ _ _
  · refine b_iconst hO dX12_floor_38 ic_i_1 ?_
    refine b_goto hO dX12_floor_39 (tgt := 43) (by decide) ?_
    refine b_sub [1] rfl ?_
    exact tfX12_floor_43 n0 hO _ _ _ _
theorem tfX12_floor (n0 : Nat) (hO : OKc p (rmL 1) s m args meth c LY D cy ad cX12_floor RX12 6 1 (some .long)) (y0 : Int64) (y2 : Int64) (M : Mem) : BL p l e (rmL 1) s m args below meth c LY D cy ad 6 (QL LY D cy ad) 0 [(0, .long y0), (2, .long y2)] [] M (fX12_floor n0 y0 y2 M) := by
  unfold fX12_floor
  refine b_lload_n hO dX12_floor_0 1 rfl rfl ?_
  refine b_lconst hO dX12_floor_1 (v := 0) rfl ?_
  refine b_lcmp hO dX12_floor_2 ?_
  refine b_if_ne hO dX12_floor_3 (tgt := 8) (by decide) ?_ ?_
  · refine b_lload_n hO dX12_floor_8 0 rfl rfl ?_
    refine b_lload_n hO dX12_floor_9 1 rfl rfl ?_
    refine b_ldiv hO dX12_floor_10 ?_
    refine b_topL (fun y4_11 => ?_)
    refine b_lstore hO dX12_floor_11 (by decide) (lv' := [(4, .long _), (0, .long _), (2, .long _)]) rfl ?_
    refine b_lload_n hO dX12_floor_13 1 rfl rfl ?_
    refine b_lload_n hO dX12_floor_14 2 rfl rfl ?_
    refine b_lrem hO dX12_floor_15 ?_
    refine b_lconst hO dX12_floor_16 (v := 0) rfl ?_
    refine b_lcmp hO dX12_floor_17 ?_
    refine b_if_eq hO dX12_floor_18 (tgt := 53) (by decide) ?_ ?_
    · refine b_lload hO dX12_floor_53 0 rfl ?_
      exact b_lret hO dX12_floor_55
    · refine b_lload_n hO dX12_floor_21 1 rfl rfl ?_
      refine b_lconst hO dX12_floor_22 (v := 0) rfl ?_
      refine b_lcmp hO dX12_floor_23 ?_
      refine b_if_ge hO dX12_floor_24 (tgt := 31) (by decide) ?_ ?_
      · refine b_iconst hO dX12_floor_31 ic_i_0 ?_
        refine b_sub [2, 0] rfl ?_
        exact tfX12_floor_32 n0 hO _ _ _ _
      · refine b_iconst hO dX12_floor_27 ic_i_1 ?_
        refine b_goto hO dX12_floor_28 (tgt := 32) (by decide) ?_
        refine b_sub [2, 0] rfl ?_
        exact tfX12_floor_32 n0 hO _ _ _ _
  · refine b_lconst hO dX12_floor_6 (v := 0) rfl ?_
    exact b_lret hO dX12_floor_7
theorem ctX12_floor (n0 : Nat) (hI : Inj LY ad) (y0 : Int64) (y2 : Int64) (M : Mem) : CT l LY D cy ad yX12_floor cX12_floor 6 (some .long) 1 (QL LY D cy ad) [.long y0, .long y2] M (fX12_floor n0 y0 y2 M) :=
  CT.mk LYok hI (by decide) (Nat.le_of_ble_eq_true rfl) (fun hO => tfX12_floor n0 hO y0 y2 M)
end
end
