section
variable {p : Program} {l : Launch} {e : Env} {s : State} {m : MethodId} {args : Array Value} {below : List Frame} {meth : Method} {c : Code} {D : va_G} {cy : Nat → ClassId} {ad : Nat → Nat} {dd : Nat}

/-! X12_joins -/
def bX12_joins_0 (n0 : Nat) (k0 : Int32 → Mem → Option (Mem)) (x1 : Int32) (M : Mem) : Option (Mem) :=
  if oob ((gI M 41) - (1 : Int32)) 20 then none else
  if (gI M 44) ≤ (gA M 25 (Int32.toNatClampNeg ((gI M 41) - (1 : Int32)))) then
    some M
  else
    if oob ((gI M 44) - (1 : Int32)) 500 then none else
    (fX12_rank n0 (gA M 26 (Int32.toNatClampNeg ((gI M 44) - (1 : Int32)))) M).bind fun z29 =>
    if z29.1 < x1 then
      some z29.2
    else
      bnd (sI z29.2 44 ((gI z29.2 44) - (1 : Int32))) fun M43 =>
      if oob (gI M43 44) 500 then none else
      (fX12_add n0 (gA M43 26 (Int32.toNatClampNeg (gI M43 44))) (0 : Int32) M43).bind fun z57 =>
      if oob (gI z57 44) 500 then none else
      if (gA z57 26 (Int32.toNatClampNeg (gI z57 44))) = (43 : Int32) then
        k0 x1 (sI z57 42 ((gI z57 42) - (1 : Int32)))
      else
        k0 x1 z57
def fX12_joins_0 (n0 : Nat) : Int32 → Mem → Option (Mem) := loopN (bX12_joins_0 n0) (fun _ _ => none) n0
def fX12_joins (n0 : Nat) (x1 : Int32) (M : Mem) : Option (Mem) :=
  fX12_joins_0 n0 x1 M
theorem tbX12_joins_0 (n0 : Nat) (hO : OKc p (rmL 2) s m args meth c LY D cy ad cX12_joins RX12 2 2 none) (k0 : Int32 → Mem → Option (Mem)) (hk0 : ∀ (x1 : Int32) (M : Mem), BL p l e (rmL 2) s m args below meth c LY D cy ad 2 (QV LY D cy ad) 0 [(0, .ref (ad 0)), (1, .int x1)] [] M (k0 x1 M)) (x1 : Int32) (M : Mem) : BL p l e (rmL 2) s m args below meth c LY D cy ad 2 (QV LY D cy ad) 0 [(0, .ref (ad 0)), (1, .int x1)] [] M (bX12_joins_0 n0 k0 x1 M) := by
  unfold bX12_joins_0
  refine b_aload_n hO dX12_joins_0 0 rfl rfl ?_
  refine b_get hO flX12_147 kLY_0 (v := .int (gI _ 44)) rfl dX12_joins_1 ?_
  refine b_aload_n hO dX12_joins_4 0 rfl rfl ?_
  refine b_get hO flX12_135 kLY_0 (v := .ref (ad 25)) rfl dX12_joins_5 ?_
  refine b_aload_n hO dX12_joins_8 0 rfl rfl ?_
  refine b_get hO flX12_138 kLY_0 (v := .int (gI _ 41)) rfl dX12_joins_9 ?_
  refine b_iconst hO dX12_joins_12 ic_i_1 ?_
  refine b_isub hO dX12_joins_13 ?_
  refine b_iald hO kLY_25 (n := 20) rfl dX12_joins_14 ?_
  refine b_icmp_le hO dX12_joins_15 (tgt := 87) (by decide) ?_ ?_
  · exact b_vret hO dX12_joins_87
  · refine b_aload_n hO dX12_joins_18 0 rfl rfl ?_
    refine b_get hO flX12_144 kLY_0 (v := .ref (ad 26)) rfl dX12_joins_19 ?_
    refine b_aload_n hO dX12_joins_22 0 rfl rfl ?_
    refine b_get hO flX12_147 kLY_0 (v := .int (gI _ 44)) rfl dX12_joins_23 ?_
    refine b_iconst hO dX12_joins_26 ic_i_1 ?_
    refine b_isub hO dX12_joins_27 ?_
    refine b_iald hO kLY_26 (n := 500) rfl dX12_joins_28 ?_
    refine b_callSI hO mdX12_rank w1630 w1629 (As := [.int _]) (st := []) (ctX12_rank n0 hO.2.2.2.2.2.2.1 _ _) (Nat.le_of_ble_eq_true rfl) rfl rfl (Nat.le_of_ble_eq_true rfl) dX12_joins_29 (fun z29 => ?_)
    refine b_iload_n hO dX12_joins_32 1 rfl rfl ?_
    refine b_icmp_lt hO dX12_joins_33 (tgt := 87) (by decide) ?_ ?_
    · exact b_vret hO dX12_joins_87
    · refine b_aload_n hO dX12_joins_36 0 rfl rfl ?_
      refine b_dup hO dX12_joins_37 rfl ?_
      refine b_get hO flX12_147 kLY_0 (v := .int (gI _ 44)) rfl dX12_joins_38 ?_
      refine b_iconst hO dX12_joins_41 ic_i_1 ?_
      refine b_isub hO dX12_joins_42 ?_
      refine b_putI hO flX12_147 kLY_0 rfl rfl rfl (id := 44) rfl dX12_joins_43 ?_
      refine b_bnd (fun M43 => ?_)
      refine b_aload_n hO dX12_joins_46 0 rfl rfl ?_
      refine b_aload_n hO dX12_joins_47 0 rfl rfl ?_
      refine b_get hO flX12_144 kLY_0 (v := .ref (ad 26)) rfl dX12_joins_48 ?_
      refine b_aload_n hO dX12_joins_51 0 rfl rfl ?_
      refine b_get hO flX12_147 kLY_0 (v := .int (gI _ 44)) rfl dX12_joins_52 ?_
      refine b_iald hO kLY_26 (n := 500) rfl dX12_joins_55 ?_
      refine b_iconst hO dX12_joins_56 ic_i_0 ?_
      refine b_callVV hO mdX12_add mvX12_add w1617 (ci := 12) rfl rfl (by decide) kLY_0 (As := [.int _, .int _]) (st := []) (ctX12_add n0 hO.2.2.2.2.2.2.1 _ _ _) (Nat.le_of_ble_eq_true rfl) rfl rfl (Nat.le_of_ble_eq_true rfl) dX12_joins_57 (fun z57 => ?_)
      refine b_aload_n hO dX12_joins_60 0 rfl rfl ?_
      refine b_get hO flX12_144 kLY_0 (v := .ref (ad 26)) rfl dX12_joins_61 ?_
      refine b_aload_n hO dX12_joins_64 0 rfl rfl ?_
      refine b_get hO flX12_147 kLY_0 (v := .int (gI _ 44)) rfl dX12_joins_65 ?_
      refine b_iald hO kLY_26 (n := 500) rfl dX12_joins_68 ?_
      refine b_bipush hO dX12_joins_69 ic_b_43 ?_
      refine b_icmp_ne hO dX12_joins_71 (tgt := 0) (by decide) ?_ ?_
      · exact hk0 _ _
      · refine b_aload_n hO dX12_joins_74 0 rfl rfl ?_
        refine b_dup hO dX12_joins_75 rfl ?_
        refine b_get hO flX12_141 kLY_0 (v := .int (gI _ 42)) rfl dX12_joins_76 ?_
        refine b_iconst hO dX12_joins_79 ic_i_1 ?_
        refine b_isub hO dX12_joins_80 ?_
        refine b_putI hO flX12_141 kLY_0 rfl rfl rfl (id := 42) rfl dX12_joins_81 ?_
        refine b_goto hO dX12_joins_84 (tgt := 0) (by decide) ?_
        exact hk0 _ _
theorem lX12_joins_0 (n0 : Nat) (hO : OKc p (rmL 2) s m args meth c LY D cy ad cX12_joins RX12 2 2 none) : ∀ (w : Nat) (x1 : Int32) (M : Mem), BL p l e (rmL 2) s m args below meth c LY D cy ad 2 (QV LY D cy ad) 0 [(0, .ref (ad 0)), (1, .int x1)] [] M (loopN (bX12_joins_0 n0) (fun _ _ => none) w x1 M) := by
  intro w
  induction w with
  | zero =>
    intros
    exact b_none
  | succ w ih =>
    intro x1 M
    exact tbX12_joins_0 n0 hO _ ih x1 M
theorem tfX12_joins_0 (n0 : Nat) (hO : OKc p (rmL 2) s m args meth c LY D cy ad cX12_joins RX12 2 2 none) (x1 : Int32) (M : Mem) : BL p l e (rmL 2) s m args below meth c LY D cy ad 2 (QV LY D cy ad) 0 [(0, .ref (ad 0)), (1, .int x1)] [] M (fX12_joins_0 n0 x1 M) := lX12_joins_0 n0 hO n0 x1 M
theorem tfX12_joins (n0 : Nat) (hO : OKc p (rmL 2) s m args meth c LY D cy ad cX12_joins RX12 2 2 none) (x1 : Int32) (M : Mem) : BL p l e (rmL 2) s m args below meth c LY D cy ad 2 (QV LY D cy ad) 0 [(0, .ref (ad 0)), (1, .int x1)] [] M (fX12_joins n0 x1 M) := by
  unfold fX12_joins
  exact tfX12_joins_0 n0 hO _ _
theorem ctX12_joins (n0 : Nat) (hI : Inj LY ad) (x1 : Int32) (M : Mem) : CT l LY D cy ad yX12_joins cX12_joins 2 none 2 (QV LY D cy ad) [.ref (ad 0), .int x1] M (fX12_joins n0 x1 M) :=
  CT.mk LYok hI (by decide) (Nat.le_of_ble_eq_true rfl) (fun hO => tfX12_joins n0 hO x1 M)
/-! X12_holdsBack -/
def fX12_holdsBack (n0 : Nat) (x1 : Int32) (M : Mem) : Option (Mem) :=
  if oob (gI M 44) 500 then none else
  bnd (sA M 26 (Int32.toNatClampNeg (gI M 44)) x1) fun M9 =>
  some (sI M9 44 ((gI M9 44) + (1 : Int32)))
theorem tfX12_holdsBack (n0 : Nat) (hO : OKc p (rmL 1) s m args meth c LY D cy ad cX12_holdsBack RX12 2 1 none) (x1 : Int32) (M : Mem) : BL p l e (rmL 1) s m args below meth c LY D cy ad 2 (QV LY D cy ad) 0 [(0, .ref (ad 0)), (1, .int x1)] [] M (fX12_holdsBack n0 x1 M) := by
  unfold fX12_holdsBack
  refine b_aload_n hO dX12_holdsBack_0 0 rfl rfl ?_
  refine b_get hO flX12_144 kLY_0 (v := .ref (ad 26)) rfl dX12_holdsBack_1 ?_
  refine b_aload_n hO dX12_holdsBack_4 0 rfl rfl ?_
  refine b_get hO flX12_147 kLY_0 (v := .int (gI _ 44)) rfl dX12_holdsBack_5 ?_
  refine b_iload_n hO dX12_holdsBack_8 1 rfl rfl ?_
  refine b_iast hO kLY_26 (n := 500) rfl dX12_holdsBack_9 ?_
  refine b_bnd (fun M9 => ?_)
  refine b_aload_n hO dX12_holdsBack_10 0 rfl rfl ?_
  refine b_dup hO dX12_holdsBack_11 rfl ?_
  refine b_get hO flX12_147 kLY_0 (v := .int (gI _ 44)) rfl dX12_holdsBack_12 ?_
  refine b_iconst hO dX12_holdsBack_15 ic_i_1 ?_
  refine b_iadd hO dX12_holdsBack_16 ?_
  refine b_putI hO flX12_147 kLY_0 rfl rfl rfl (id := 44) rfl dX12_holdsBack_17 ?_
  exact b_vret hO dX12_holdsBack_20
theorem ctX12_holdsBack (n0 : Nat) (hI : Inj LY ad) (x1 : Int32) (M : Mem) : CT l LY D cy ad yX12_holdsBack cX12_holdsBack 2 none 1 (QV LY D cy ad) [.ref (ad 0), .int x1] M (fX12_holdsBack n0 x1 M) :=
  CT.mk LYok hI (by decide) (Nat.le_of_ble_eq_true rfl) (fun hO => tfX12_holdsBack n0 hO x1 M)
/-! X12_pushes -/
def fX12_pushes (n0 : Nat) (x1 : Int32) (M : Mem) : Option (Mem) :=
  if oob (gI M 41) 20 then none else
  bnd (sA M 21 (Int32.toNatClampNeg (gI M 41)) x1) fun M9 =>
  if oob (gI M9 41) 20 then none else
  bnd (sA M9 22 (Int32.toNatClampNeg (gI M9 41)) (0 : Int32)) fun M19 =>
  if oob (gI M19 41) 20 then none else
  bnd (sA M19 23 (Int32.toNatClampNeg (gI M19 41)) (1 : Int32)) fun M29 =>
  if oob (gI M29 41) 20 then none else
  bnd (sA M29 25 (Int32.toNatClampNeg (gI M29 41)) (gI M29 44)) fun M42 =>
  some (sI M42 41 ((gI M42 41) + (1 : Int32)))
theorem tfX12_pushes (n0 : Nat) (hO : OKc p (rmL 1) s m args meth c LY D cy ad cX12_pushes RX12 2 1 none) (x1 : Int32) (M : Mem) : BL p l e (rmL 1) s m args below meth c LY D cy ad 2 (QV LY D cy ad) 0 [(0, .ref (ad 0)), (1, .int x1)] [] M (fX12_pushes n0 x1 M) := by
  unfold fX12_pushes
  refine b_aload_n hO dX12_pushes_0 0 rfl rfl ?_
  refine b_get hO flX12_122 kLY_0 (v := .ref (ad 21)) rfl dX12_pushes_1 ?_
  refine b_aload_n hO dX12_pushes_4 0 rfl rfl ?_
  refine b_get hO flX12_138 kLY_0 (v := .int (gI _ 41)) rfl dX12_pushes_5 ?_
  refine b_iload_n hO dX12_pushes_8 1 rfl rfl ?_
  refine b_iast hO kLY_21 (n := 20) rfl dX12_pushes_9 ?_
  refine b_bnd (fun M9 => ?_)
  refine b_aload_n hO dX12_pushes_10 0 rfl rfl ?_
  refine b_get hO flX12_125 kLY_0 (v := .ref (ad 22)) rfl dX12_pushes_11 ?_
  refine b_aload_n hO dX12_pushes_14 0 rfl rfl ?_
  refine b_get hO flX12_138 kLY_0 (v := .int (gI _ 41)) rfl dX12_pushes_15 ?_
  refine b_iconst hO dX12_pushes_18 ic_i_0 ?_
  refine b_iast hO kLY_22 (n := 20) rfl dX12_pushes_19 ?_
  refine b_bnd (fun M19 => ?_)
  refine b_aload_n hO dX12_pushes_20 0 rfl rfl ?_
  refine b_get hO flX12_128 kLY_0 (v := .ref (ad 23)) rfl dX12_pushes_21 ?_
  refine b_aload_n hO dX12_pushes_24 0 rfl rfl ?_
  refine b_get hO flX12_138 kLY_0 (v := .int (gI _ 41)) rfl dX12_pushes_25 ?_
  refine b_iconst hO dX12_pushes_28 ic_i_1 ?_
  refine b_zastc hO kLY_23 (n := 20) rfl (Or.inr rfl) dX12_pushes_29 ?_
  refine b_bnd (fun M29 => ?_)
  refine b_aload_n hO dX12_pushes_30 0 rfl rfl ?_
  refine b_get hO flX12_135 kLY_0 (v := .ref (ad 25)) rfl dX12_pushes_31 ?_
  refine b_aload_n hO dX12_pushes_34 0 rfl rfl ?_
  refine b_get hO flX12_138 kLY_0 (v := .int (gI _ 41)) rfl dX12_pushes_35 ?_
  refine b_aload_n hO dX12_pushes_38 0 rfl rfl ?_
  refine b_get hO flX12_147 kLY_0 (v := .int (gI _ 44)) rfl dX12_pushes_39 ?_
  refine b_iast hO kLY_25 (n := 20) rfl dX12_pushes_42 ?_
  refine b_bnd (fun M42 => ?_)
  refine b_aload_n hO dX12_pushes_43 0 rfl rfl ?_
  refine b_dup hO dX12_pushes_44 rfl ?_
  refine b_get hO flX12_138 kLY_0 (v := .int (gI _ 41)) rfl dX12_pushes_45 ?_
  refine b_iconst hO dX12_pushes_48 ic_i_1 ?_
  refine b_iadd hO dX12_pushes_49 ?_
  refine b_putI hO flX12_138 kLY_0 rfl rfl rfl (id := 41) rfl dX12_pushes_50 ?_
  exact b_vret hO dX12_pushes_53
theorem ctX12_pushes (n0 : Nat) (hI : Inj LY ad) (x1 : Int32) (M : Mem) : CT l LY D cy ad yX12_pushes cX12_pushes 2 none 1 (QV LY D cy ad) [.ref (ad 0), .int x1] M (fX12_pushes n0 x1 M) :=
  CT.mk LYok hI (by decide) (Nat.le_of_ble_eq_true rfl) (fun hO => tfX12_pushes n0 hO x1 M)
/-! X12_opens -/
def fX12_opens_18 (n0 : Nat) (x1 : Int32) (M : Mem) : Option (Mem) :=
  if (gI M 8) ≤ 0 then
    bnd (sI M 42 ((gI M 42) + (1 : Int32))) fun M33 =>
    (fX12_ahead n0 M33).bind fun z37 =>
    (fX12_pushes n0 x1 z37).bind fun z42 =>
    some z42
  else
    some M
def fX12_opens (n0 : Nat) (x1 : Int32) (M : Mem) : Option (Mem) :=
  if (gI M 42) = (7 : Int32) then
    (fX12_blame n0 (5 : Int32) (gI M 4) M).bind fun z15 =>
    fX12_opens_18 n0 x1 z15
  else
    fX12_opens_18 n0 x1 M
theorem tfX12_opens_18 (n0 : Nat) (hO : OKc p (rmL 3) s m args meth c LY D cy ad cX12_opens RX12 2 3 none) (x1 : Int32) (M : Mem) : BL p l e (rmL 3) s m args below meth c LY D cy ad 2 (QV LY D cy ad) 18 [(0, .ref (ad 0)), (1, .int x1)] [] M (fX12_opens_18 n0 x1 M) := by
  unfold fX12_opens_18
  refine b_aload_n hO dX12_opens_18 0 rfl rfl ?_
  refine b_get hO flX12_36 kLY_0 (v := .int (gI _ 8)) rfl dX12_opens_19 ?_
  refine b_if_le hO dX12_opens_22 (tgt := 26) (by decide) ?_ ?_
  · refine b_aload_n hO dX12_opens_26 0 rfl rfl ?_
    refine b_dup hO dX12_opens_27 rfl ?_
    refine b_get hO flX12_141 kLY_0 (v := .int (gI _ 42)) rfl dX12_opens_28 ?_
    refine b_iconst hO dX12_opens_31 ic_i_1 ?_
    refine b_iadd hO dX12_opens_32 ?_
    refine b_putI hO flX12_141 kLY_0 rfl rfl rfl (id := 42) rfl dX12_opens_33 ?_
    refine b_bnd (fun M33 => ?_)
    refine b_aload_n hO dX12_opens_36 0 rfl rfl ?_
    refine b_callVV hO mdX12_ahead mvX12_ahead w1473 (ci := 12) rfl rfl (by decide) kLY_0 (As := []) (st := []) (ctX12_ahead n0 hO.2.2.2.2.2.2.1 _) (Nat.le_of_ble_eq_true rfl) rfl rfl (Nat.le_of_ble_eq_true rfl) dX12_opens_37 (fun z37 => ?_)
    refine b_aload_n hO dX12_opens_40 0 rfl rfl ?_
    refine b_iload_n hO dX12_opens_41 1 rfl rfl ?_
    refine b_callVV hO mdX12_pushes mvX12_pushes w1594 (ci := 12) rfl rfl (by decide) kLY_0 (As := [.int _]) (st := []) (ctX12_pushes n0 hO.2.2.2.2.2.2.1 _ _) (Nat.le_of_ble_eq_true rfl) rfl rfl (Nat.le_of_ble_eq_true rfl) dX12_opens_42 (fun z42 => ?_)
    exact b_vret hO dX12_opens_45
  · exact b_vret hO dX12_opens_25
theorem tfX12_opens (n0 : Nat) (hO : OKc p (rmL 3) s m args meth c LY D cy ad cX12_opens RX12 2 3 none) (x1 : Int32) (M : Mem) : BL p l e (rmL 3) s m args below meth c LY D cy ad 2 (QV LY D cy ad) 0 [(0, .ref (ad 0)), (1, .int x1)] [] M (fX12_opens n0 x1 M) := by
  unfold fX12_opens
  refine b_aload_n hO dX12_opens_0 0 rfl rfl ?_
  refine b_get hO flX12_141 kLY_0 (v := .int (gI _ 42)) rfl dX12_opens_1 ?_
  refine b_bipush hO dX12_opens_4 ic_b_7 ?_
  refine b_icmp_ne hO dX12_opens_6 (tgt := 18) (by decide) ?_ ?_
  · exact tfX12_opens_18 n0 hO _ _
  · refine b_aload_n hO dX12_opens_9 0 rfl rfl ?_
    refine b_iconst hO dX12_opens_10 ic_i_5 ?_
    refine b_aload_n hO dX12_opens_11 0 rfl rfl ?_
    refine b_get hO flX12_23 kLY_0 (v := .int (gI _ 4)) rfl dX12_opens_12 ?_
    refine b_callVV hO mdX12_blame mvX12_blame w1491 (ci := 12) rfl rfl (by decide) kLY_0 (As := [.int _, .int _]) (st := []) (ctX12_blame n0 hO.2.2.2.2.2.2.1 _ _ _) (Nat.le_of_ble_eq_true rfl) rfl rfl (Nat.le_of_ble_eq_true rfl) dX12_opens_15 (fun z15 => ?_)
    exact tfX12_opens_18 n0 hO _ _
theorem ctX12_opens (n0 : Nat) (hI : Inj LY ad) (x1 : Int32) (M : Mem) : CT l LY D cy ad yX12_opens cX12_opens 2 none 3 (QV LY D cy ad) [.ref (ad 0), .int x1] M (fX12_opens n0 x1 M) :=
  CT.mk LYok hI (by decide) (Nat.le_of_ble_eq_true rfl) (fun hO => tfX12_opens n0 hO x1 M)
/-! X12_isTest -/
def fX12_isTest (n0 : Nat) (x0 : Int32) (M : Mem) : Option (Int32 × Mem) :=
  if x0 = (1 : Int32) then
    some ((1 : Int32), M)
  else
    if x0 = (5 : Int32) then
      some ((1 : Int32), M)
    else
      if x0 = (6 : Int32) then
        some ((1 : Int32), M)
      else
        some ((0 : Int32), M)
theorem tfX12_isTest (n0 : Nat) (hO : OKc p (rmL 1) s m args meth c LY D cy ad cX12_isTest RX12 1 1 (some .boolean)) (x0 : Int32) (M : Mem) : BL p l e (rmL 1) s m args below meth c LY D cy ad 1 (QI LY D cy ad) 0 [(0, .int x0)] [] M (fX12_isTest n0 x0 M) := by
  unfold fX12_isTest
  refine b_iload_n hO dX12_isTest_0 0 rfl rfl ?_
  refine b_iconst hO dX12_isTest_1 ic_i_1 ?_
  refine b_icmp_eq hO dX12_isTest_2 (tgt := 16) (by decide) ?_ ?_
  · refine b_iconst hO dX12_isTest_16 ic_i_1 ?_
    refine b_goto hO dX12_isTest_17 (tgt := 21) (by decide) ?_
    exact b_zretc hO (Or.inr rfl) dX12_isTest_21
  · refine b_iload_n hO dX12_isTest_5 0 rfl rfl ?_
    refine b_iconst hO dX12_isTest_6 ic_i_5 ?_
    refine b_icmp_eq hO dX12_isTest_7 (tgt := 16) (by decide) ?_ ?_
    · refine b_iconst hO dX12_isTest_16 ic_i_1 ?_
      refine b_goto hO dX12_isTest_17 (tgt := 21) (by decide) ?_
      exact b_zretc hO (Or.inr rfl) dX12_isTest_21
    · refine b_iload_n hO dX12_isTest_10 0 rfl rfl ?_
      refine b_bipush hO dX12_isTest_11 ic_b_6 ?_
      refine b_icmp_ne hO dX12_isTest_13 (tgt := 20) (by decide) ?_ ?_
      · refine b_iconst hO dX12_isTest_20 ic_i_0 ?_
        exact b_zretc hO (Or.inl rfl) dX12_isTest_21
      · refine b_iconst hO dX12_isTest_16 ic_i_1 ?_
        refine b_goto hO dX12_isTest_17 (tgt := 21) (by decide) ?_
        exact b_zretc hO (Or.inr rfl) dX12_isTest_21
theorem ctX12_isTest (n0 : Nat) (hI : Inj LY ad) (x0 : Int32) (M : Mem) : CT l LY D cy ad yX12_isTest cX12_isTest 1 (some .boolean) 1 (QI LY D cy ad) [.int x0] M (fX12_isTest n0 x0 M) :=
  CT.mk LYok hI (by decide) (Nat.le_of_ble_eq_true rfl) (fun hO => tfX12_isTest n0 hO x0 M)
/-! X12_operand -/
def fX12_operand_79 (n0 : Nat) (M : Mem) : Option (Int32 × Mem) :=
  if (gI M 8) ≤ 0 then
    bnd (sI M 42 ((gI M 42) + (1 : Int32))) fun M95 =>
    (fX12_holdsBack n0 (43 : Int32) M95).bind fun z101 =>
    (fX12_ahead n0 z101).bind fun z105 =>
    some ((0 : Int32), z105)
  else
    some ((1 : Int32), M)
def fX12_operand_289 (n0 : Nat) (x3 : Int32) (u1 : Int32) (M : Mem) : Option (Int32 × Mem) :=
  (fX12_opens n0 u1 M).bind fun z289 =>
  if (gI z289 8) = 0 then
    if oob ((gI z289 41) - (1 : Int32)) 20 then none else
    some ((0 : Int32), (sA z289 24 (Int32.toNatClampNeg ((gI z289 41) - (1 : Int32))) x3))
  else
    some ((0 : Int32), z289)
def fX12_operand_276 (n0 : Nat) (x3 : Int32) (M : Mem) : Option (Int32 × Mem) :=
  if x3 = (44 : Int32) then
    fX12_operand_289 n0 x3 (6 : Int32) M
  else
    fX12_operand_289 n0 x3 (3 : Int32) M
def fX12_operand_249 (n0 : Nat) (u0 : Int32) (M : Mem) : Option (Int32 × Mem) :=
  (fX12_ahead n0 M).bind fun z251 =>
  (fX12_lex n0 z251).bind fun z255 =>
  (fX12_isSign n0 (40 : Int32) z255).bind fun z261 =>
  if z261.1 = 0 then
    (fX12_blame n0 (1 : Int32) (gI z261.2 4) z261.2).bind fun z273 =>
    fX12_operand_276 n0 u0 z273
  else
    fX12_operand_276 n0 u0 z261.2
def fX12_operand_217 (n0 : Nat) (M : Mem) : Option (Int32 × Mem) :=
  (fX12_isWord n0 (7170414 : Int64) M).bind fun z221 =>
  if z221.1 = 0 then
    (fX12_isWord n0 (7168376 : Int64) z221.2).bind fun z236 =>
    if z236.1 = 0 then
      fX12_operand_249 n0 (44 : Int32) z236.2
    else
      fX12_operand_249 n0 (37 : Int32) z236.2
  else
    fX12_operand_249 n0 (36 : Int32) z221.2
def fX12_operand_451 (n0 : Nat) (x3 : Int32) (M : Mem) : Option (Int32 × Mem) :=
  if (gI M 8) ≤ 0 then
    (fX12_add n0 x3 (gI M 6) M).bind fun z466 =>
    (fX12_ahead n0 z466).bind fun z470 =>
    some ((1 : Int32), z470)
  else
    some ((1 : Int32), M)
def fX12_operand_437 (n0 : Nat) (x3 : Int32) (M : Mem) : Option (Int32 × Mem) :=
  if x3 = (-1 : Int32) then
    (fX12_blame n0 (1 : Int32) (gI M 4) M).bind fun z448 =>
    fX12_operand_451 n0 x3 z448
  else
    fX12_operand_451 n0 x3 M
def fX12_operand_428 (n0 : Nat) (x3 : Int32) (u0 : Int32) (M : Mem) : Option (Int32 × Mem) :=
  if u0 = (gI M 35) then
    fX12_operand_437 n0 x3 M
  else
    fX12_operand_437 n0 (-1 : Int32) M
def fX12_operand_411 (n0 : Nat) (u0 : Int32) (M : Mem) : Option (Int32 × Mem) :=
  if u0 < (5 : Int32) then
    fX12_operand_437 n0 u0 M
  else
    if u0 = (6 : Int32) then
      fX12_operand_428 n0 u0 (1 : Int32) M
    else
      fX12_operand_428 n0 u0 (0 : Int32) M
def fX12_operand_171 (n0 : Nat) (M : Mem) : Option (Int32 × Mem) :=
  (fX12_isSign n0 (40 : Int32) M).bind fun z174 =>
  if z174.1 = 0 then
    (fX12_isWord n0 (7170414 : Int64) z174.2).bind fun z191 =>
    if z191.1 = 0 then
      (fX12_isWord n0 (7168376 : Int64) z191.2).bind fun z201 =>
      if z201.1 = 0 then
        (fX12_isWord n0 (26982 : Int64) z201.2).bind fun z211 =>
        if z211.1 = 0 then
          if (gI z211.2 3) = (2 : Int32) then
            fX12_operand_411 n0 (0 : Int32) z211.2
          else
            (fX12_isWord n0 (512802514792 : Int64) z211.2).bind fun z329 =>
            if z329.1 = 0 then
              (fX12_isWord n0 (1751477348 : Int64) z329.2).bind fun z343 =>
              if z343.1 = 0 then
                (fX12_isWord n0 (109330312357234 : Int64) z343.2).bind fun z357 =>
                if z357.1 = 0 then
                  (fX12_isWord n0 (120299592184933 : Int64) z357.2).bind fun z371 =>
                  if z371.1 = 0 then
                    (fX12_isWord n0 (435627783289 : Int64) z371.2).bind fun z385 =>
                    if z385.1 = 0 then
                      (fX12_isWord n0 (465491424371 : Int64) z385.2).bind fun z399 =>
                      if z399.1 = 0 then
                        fX12_operand_411 n0 (-1 : Int32) z399.2
                      else
                        fX12_operand_411 n0 (6 : Int32) z399.2
                    else
                      fX12_operand_411 n0 (5 : Int32) z385.2
                  else
                    fX12_operand_411 n0 (4 : Int32) z371.2
                else
                  fX12_operand_411 n0 (3 : Int32) z357.2
              else
                fX12_operand_411 n0 (2 : Int32) z343.2
            else
              fX12_operand_411 n0 (1 : Int32) z329.2
        else
          fX12_operand_217 n0 z211.2
      else
        fX12_operand_217 n0 z201.2
    else
      fX12_operand_217 n0 z191.2
  else
    (fX12_opens n0 (2 : Int32) z174.2).bind fun z182 =>
    some ((0 : Int32), z182)
def fX12_operand_137 (n0 : Nat) (x1 : Int32) (x2 : Int32) (M : Mem) : Option (Int32 × Mem) :=
  if x2 = 0 then
    fX12_operand_171 n0 M
  else
    (fX12_isWord n0 (6384748 : Int64) M).bind fun z145 =>
    if z145.1 = 0 then
      fX12_operand_171 n0 z145.2
    else
      (fX12_add n0 (30 : Int32) (0 : Int32) z145.2).bind fun z155 =>
      if oob x1 20 then none else
      bnd (sA z155 22 (Int32.toNatClampNeg x1) (2 : Int32)) fun M164 =>
      (fX12_ahead n0 M164).bind fun z166 =>
      some ((1 : Int32), z166)
def fX12_operand_110 (n0 : Nat) (x1 : Int32) (x2 : Int32) (M : Mem) : Option (Int32 × Mem) :=
  if oob x1 20 then none else
  bnd (sA M 23 (Int32.toNatClampNeg x1) (0 : Int32)) fun M116 =>
  if x2 = 0 then
    fX12_operand_137 n0 x1 x2 M116
  else
    (fX12_isSign n0 (91 : Int32) M116).bind fun z124 =>
    if z124.1 = 0 then
      fX12_operand_137 n0 x1 x2 z124.2
    else
      (fX12_opens n0 (5 : Int32) z124.2).bind fun z132 =>
      some ((0 : Int32), z132)
def fX12_operand_46 (n0 : Nat) (x1 : Int32) (u0 : Int32) (M : Mem) : Option (Int32 × Mem) :=
  if u0 = 0 then
    fX12_operand_110 n0 x1 u0 M
  else
    (fX12_isWord n0 (7237492 : Int64) M).bind fun z55 =>
    if z55.1 = 0 then
      fX12_operand_110 n0 x1 u0 z55.2
    else
      if (gI z55.2 42) = (7 : Int32) then
        (fX12_blame n0 (5 : Int32) (gI z55.2 4) z55.2).bind fun z76 =>
        fX12_operand_79 n0 z76
      else
        fX12_operand_79 n0 z55.2
def fX12_operand_45 (n0 : Nat) (x1 : Int32) (M : Mem) : Option (Int32 × Mem) :=
  fX12_operand_46 n0 x1 (0 : Int32) M
def fX12_operand (n0 : Nat) (M : Mem) : Option (Int32 × Mem) :=
  (fX12_lex n0 M).bind fun z1 =>
  if (gI z1 8) ≤ 0 then
    bnd ((gI z1 41) - (1 : Int32)) fun x1_19 =>
    if oob x1_19 20 then none else
    (fX12_isTest n0 (gA z1 21 (Int32.toNatClampNeg x1_19)) z1).bind fun z26 =>
    if z26.1 = 0 then
      fX12_operand_45 n0 x1_19 z26.2
    else
      if oob x1_19 20 then none else
      if (gA z26.2 23 (Int32.toNatClampNeg x1_19)) = 0 then
        fX12_operand_45 n0 x1_19 z26.2
      else
        fX12_operand_46 n0 x1_19 (1 : Int32) z26.2
  else
    some ((1 : Int32), z1)
theorem tfX12_operand_79 (n0 : Nat) (hO : OKc p (rmL 4) s m args meth c LY D cy ad cX12_operand RX12 4 4 (some .boolean)) (M : Mem) : BL p l e (rmL 4) s m args below meth c LY D cy ad 4 (QI LY D cy ad) 79 [(0, .ref (ad 0))] [] M (fX12_operand_79 n0 M) := by
  unfold fX12_operand_79
  refine b_aload_n hO dX12_operand_79 0 rfl rfl ?_
  refine b_get hO flX12_36 kLY_0 (v := .int (gI _ 8)) rfl dX12_operand_80 ?_
  refine b_if_le hO dX12_operand_83 (tgt := 88) (by decide) ?_ ?_
  · refine b_aload_n hO dX12_operand_88 0 rfl rfl ?_
    refine b_dup hO dX12_operand_89 rfl ?_
    refine b_get hO flX12_141 kLY_0 (v := .int (gI _ 42)) rfl dX12_operand_90 ?_
    refine b_iconst hO dX12_operand_93 ic_i_1 ?_
    refine b_iadd hO dX12_operand_94 ?_
    refine b_putI hO flX12_141 kLY_0 rfl rfl rfl (id := 42) rfl dX12_operand_95 ?_
    refine b_bnd (fun M95 => ?_)
    refine b_aload_n hO dX12_operand_98 0 rfl rfl ?_
    refine b_bipush hO dX12_operand_99 ic_b_43 ?_
    refine b_callVV hO mdX12_holdsBack mvX12_holdsBack w1605 (ci := 12) rfl rfl (by decide) kLY_0 (As := [.int _]) (st := []) (ctX12_holdsBack n0 hO.2.2.2.2.2.2.1 _ _) (Nat.le_of_ble_eq_true rfl) rfl rfl (Nat.le_of_ble_eq_true rfl) dX12_operand_101 (fun z101 => ?_)
    refine b_aload_n hO dX12_operand_104 0 rfl rfl ?_
    refine b_callVV hO mdX12_ahead mvX12_ahead w1473 (ci := 12) rfl rfl (by decide) kLY_0 (As := []) (st := []) (ctX12_ahead n0 hO.2.2.2.2.2.2.1 _) (Nat.le_of_ble_eq_true rfl) rfl rfl (Nat.le_of_ble_eq_true rfl) dX12_operand_105 (fun z105 => ?_)
    refine b_iconst hO dX12_operand_108 ic_i_0 ?_
    exact b_zretc hO (Or.inl rfl) dX12_operand_109
  · refine b_iconst hO dX12_operand_86 ic_i_1 ?_
    exact b_zretc hO (Or.inr rfl) dX12_operand_87
theorem tfX12_operand_289 (n0 : Nat) (hO : OKc p (rmL 4) s m args meth c LY D cy ad cX12_operand RX12 4 4 (some .boolean)) (x3 : Int32) (u1 : Int32) (M : Mem) : BL p l e (rmL 4) s m args below meth c LY D cy ad 4 (QI LY D cy ad) 289 [(0, .ref (ad 0)), (3, .int x3)] [.int u1, .ref (ad 0)] M (fX12_operand_289 n0 x3 u1 M) := by
  unfold fX12_operand_289
  refine b_callVV hO mdX12_opens mvX12_opens w1613 (ci := 12) rfl rfl (by decide) kLY_0 (As := [.int _]) (st := []) (ctX12_opens n0 hO.2.2.2.2.2.2.1 _ _) (Nat.le_of_ble_eq_true rfl) rfl rfl (Nat.le_of_ble_eq_true rfl) dX12_operand_289 (fun z289 => ?_)
  refine b_aload_n hO dX12_operand_292 0 rfl rfl ?_
  refine b_get hO flX12_36 kLY_0 (v := .int (gI _ 8)) rfl dX12_operand_293 ?_
  refine b_if_ne hO dX12_operand_296 (tgt := 311) (by decide) ?_ ?_
  · refine b_iconst hO dX12_operand_311 ic_i_0 ?_
    exact b_zretc hO (Or.inl rfl) dX12_operand_312
  · refine b_aload_n hO dX12_operand_299 0 rfl rfl ?_
    refine b_get hO flX12_132 kLY_0 (v := .ref (ad 24)) rfl dX12_operand_300 ?_
    refine b_aload_n hO dX12_operand_303 0 rfl rfl ?_
    refine b_get hO flX12_138 kLY_0 (v := .int (gI _ 41)) rfl dX12_operand_304 ?_
    refine b_iconst hO dX12_operand_307 ic_i_1 ?_
    refine b_isub hO dX12_operand_308 ?_
    refine b_iload_n hO dX12_operand_309 1 rfl rfl ?_
    refine b_iast hO kLY_24 (n := 20) rfl dX12_operand_310 ?_
    refine b_iconst hO dX12_operand_311 ic_i_0 ?_
    exact b_zretc hO (Or.inl rfl) dX12_operand_312
theorem tfX12_operand_276 (n0 : Nat) (hO : OKc p (rmL 4) s m args meth c LY D cy ad cX12_operand RX12 4 4 (some .boolean)) (x3 : Int32) (M : Mem) : BL p l e (rmL 4) s m args below meth c LY D cy ad 4 (QI LY D cy ad) 276 [(0, .ref (ad 0)), (3, .int x3)] [] M (fX12_operand_276 n0 x3 M) := by
  unfold fX12_operand_276
  refine b_aload_n hO dX12_operand_276 0 rfl rfl ?_
  refine b_iload_n hO dX12_operand_277 1 rfl rfl ?_
  refine b_bipush hO dX12_operand_278 ic_b_44 ?_
  refine b_icmp_ne hO dX12_operand_280 (tgt := 288) (by decide) ?_ ?_
  · refine b_iconst hO dX12_operand_288 ic_i_3 ?_
    exact tfX12_operand_289 n0 hO _ _ _
  · refine b_bipush hO dX12_operand_283 ic_b_6 ?_
    refine b_goto hO dX12_operand_285 (tgt := 289) (by decide) ?_
    exact tfX12_operand_289 n0 hO _ _ _
theorem tfX12_operand_249 (n0 : Nat) (hO : OKc p (rmL 4) s m args meth c LY D cy ad cX12_operand RX12 4 4 (some .boolean)) (u0 : Int32) (M : Mem) : BL p l e (rmL 4) s m args below meth c LY D cy ad 4 (QI LY D cy ad) 249 [(0, .ref (ad 0))] [.int u0] M (fX12_operand_249 n0 u0 M) := by
  unfold fX12_operand_249
  refine b_istore_n hO dX12_operand_249 rfl (by decide) (lv' := [(3, .int _), (0, .ref _)]) rfl ?_
  refine b_aload_n hO dX12_operand_250 1 rfl rfl ?_
  refine b_callVV hO mdX12_ahead mvX12_ahead w1473 (ci := 12) rfl rfl (by decide) kLY_0 (As := []) (st := []) (ctX12_ahead n0 hO.2.2.2.2.2.2.1 _) (Nat.le_of_ble_eq_true rfl) rfl rfl (Nat.le_of_ble_eq_true rfl) dX12_operand_251 (fun z251 => ?_)
  refine b_aload_n hO dX12_operand_254 1 rfl rfl ?_
  refine b_callVV hO mdX12_lex mvX12_lex w1487 (ci := 12) rfl rfl (by decide) kLY_0 (As := []) (st := []) (ctX12_lex n0 hO.2.2.2.2.2.2.1 _) (Nat.le_of_ble_eq_true rfl) rfl rfl (Nat.le_of_ble_eq_true rfl) dX12_operand_255 (fun z255 => ?_)
  refine b_aload_n hO dX12_operand_258 1 rfl rfl ?_
  refine b_bipush hO dX12_operand_259 ic_b_40 ?_
  refine b_callVI hO mdX12_isSign mvX12_isSign w1609 (ci := 12) rfl rfl (by decide) kLY_0 (As := [.int _]) (st := []) (ctX12_isSign n0 hO.2.2.2.2.2.2.1 _ _) (Nat.le_of_ble_eq_true rfl) rfl rfl (Nat.le_of_ble_eq_true rfl) dX12_operand_261 (fun z261 => ?_)
  refine b_if_ne hO dX12_operand_264 (tgt := 276) (by decide) ?_ ?_
  · refine b_sub [1, 0] rfl ?_
    exact tfX12_operand_276 n0 hO _ _
  · refine b_aload_n hO dX12_operand_267 1 rfl rfl ?_
    refine b_iconst hO dX12_operand_268 ic_i_1 ?_
    refine b_aload_n hO dX12_operand_269 1 rfl rfl ?_
    refine b_get hO flX12_23 kLY_0 (v := .int (gI _ 4)) rfl dX12_operand_270 ?_
    refine b_callVV hO mdX12_blame mvX12_blame w1491 (ci := 12) rfl rfl (by decide) kLY_0 (As := [.int _, .int _]) (st := []) (ctX12_blame n0 hO.2.2.2.2.2.2.1 _ _ _) (Nat.le_of_ble_eq_true rfl) rfl rfl (Nat.le_of_ble_eq_true rfl) dX12_operand_273 (fun z273 => ?_)
    refine b_sub [1, 0] rfl ?_
    exact tfX12_operand_276 n0 hO _ _
theorem tfX12_operand_217 (n0 : Nat) (hO : OKc p (rmL 4) s m args meth c LY D cy ad cX12_operand RX12 4 4 (some .boolean)) (M : Mem) : BL p l e (rmL 4) s m args below meth c LY D cy ad 4 (QI LY D cy ad) 217 [(0, .ref (ad 0))] [] M (fX12_operand_217 n0 M) := by
  unfold fX12_operand_217
  refine b_aload_n hO dX12_operand_217 0 rfl rfl ?_
  refine b_ldc2 hO w1538 dX12_operand_218 ?_
  refine b_callVI hO mdX12_isWord mvX12_isWord w1496 (ci := 12) rfl rfl (by decide) kLY_0 (As := [.long _]) (st := []) (ctX12_isWord n0 hO.2.2.2.2.2.2.1 _ _) (Nat.le_of_ble_eq_true rfl) rfl rfl (Nat.le_of_ble_eq_true rfl) dX12_operand_221 (fun z221 => ?_)
  refine b_if_eq hO dX12_operand_224 (tgt := 232) (by decide) ?_ ?_
  · refine b_aload_n hO dX12_operand_232 0 rfl rfl ?_
    refine b_ldc2 hO w1539 dX12_operand_233 ?_
    refine b_callVI hO mdX12_isWord mvX12_isWord w1496 (ci := 12) rfl rfl (by decide) kLY_0 (As := [.long _]) (st := []) (ctX12_isWord n0 hO.2.2.2.2.2.2.1 _ _) (Nat.le_of_ble_eq_true rfl) rfl rfl (Nat.le_of_ble_eq_true rfl) dX12_operand_236 (fun z236 => ?_)
    refine b_if_eq hO dX12_operand_239 (tgt := 247) (by decide) ?_ ?_
    · refine b_bipush hO dX12_operand_247 ic_b_44 ?_
      exact tfX12_operand_249 n0 hO _ _
    · refine b_bipush hO dX12_operand_242 ic_b_37 ?_
      refine b_goto hO dX12_operand_244 (tgt := 249) (by decide) ?_
      exact tfX12_operand_249 n0 hO _ _
  · refine b_bipush hO dX12_operand_227 ic_b_36 ?_
    refine b_goto hO dX12_operand_229 (tgt := 249) (by decide) ?_
    exact tfX12_operand_249 n0 hO _ _
theorem tfX12_operand_451 (n0 : Nat) (hO : OKc p (rmL 4) s m args meth c LY D cy ad cX12_operand RX12 4 4 (some .boolean)) (x3 : Int32) (M : Mem) : BL p l e (rmL 4) s m args below meth c LY D cy ad 4 (QI LY D cy ad) 451 [(0, .ref (ad 0)), (3, .int x3)] [] M (fX12_operand_451 n0 x3 M) := by
  unfold fX12_operand_451
  refine b_aload_n hO dX12_operand_451 0 rfl rfl ?_
  refine b_get hO flX12_36 kLY_0 (v := .int (gI _ 8)) rfl dX12_operand_452 ?_
  refine b_if_le hO dX12_operand_455 (tgt := 460) (by decide) ?_ ?_
  · refine b_aload_n hO dX12_operand_460 0 rfl rfl ?_
    refine b_iload_n hO dX12_operand_461 1 rfl rfl ?_
    refine b_aload_n hO dX12_operand_462 0 rfl rfl ?_
    refine b_get hO flX12_29 kLY_0 (v := .int (gI _ 6)) rfl dX12_operand_463 ?_
    refine b_callVV hO mdX12_add mvX12_add w1617 (ci := 12) rfl rfl (by decide) kLY_0 (As := [.int _, .int _]) (st := []) (ctX12_add n0 hO.2.2.2.2.2.2.1 _ _ _) (Nat.le_of_ble_eq_true rfl) rfl rfl (Nat.le_of_ble_eq_true rfl) dX12_operand_466 (fun z466 => ?_)
    refine b_aload_n hO dX12_operand_469 0 rfl rfl ?_
    refine b_callVV hO mdX12_ahead mvX12_ahead w1473 (ci := 12) rfl rfl (by decide) kLY_0 (As := []) (st := []) (ctX12_ahead n0 hO.2.2.2.2.2.2.1 _) (Nat.le_of_ble_eq_true rfl) rfl rfl (Nat.le_of_ble_eq_true rfl) dX12_operand_470 (fun z470 => ?_)
    refine b_iconst hO dX12_operand_473 ic_i_1 ?_
    exact b_zretc hO (Or.inr rfl) dX12_operand_474
  · refine b_iconst hO dX12_operand_458 ic_i_1 ?_
    exact b_zretc hO (Or.inr rfl) dX12_operand_459
theorem tfX12_operand_437 (n0 : Nat) (hO : OKc p (rmL 4) s m args meth c LY D cy ad cX12_operand RX12 4 4 (some .boolean)) (x3 : Int32) (M : Mem) : BL p l e (rmL 4) s m args below meth c LY D cy ad 4 (QI LY D cy ad) 437 [(0, .ref (ad 0)), (3, .int x3)] [] M (fX12_operand_437 n0 x3 M) := by
  unfold fX12_operand_437
  refine b_iload_n hO dX12_operand_437 1 rfl rfl ?_
  refine b_iconst hO dX12_operand_438 ic_i_m1 ?_
  refine b_icmp_ne hO dX12_operand_439 (tgt := 451) (by decide) ?_ ?_
  · exact tfX12_operand_451 n0 hO _ _
  · refine b_aload_n hO dX12_operand_442 0 rfl rfl ?_
    refine b_iconst hO dX12_operand_443 ic_i_1 ?_
    refine b_aload_n hO dX12_operand_444 0 rfl rfl ?_
    refine b_get hO flX12_23 kLY_0 (v := .int (gI _ 4)) rfl dX12_operand_445 ?_
    refine b_callVV hO mdX12_blame mvX12_blame w1491 (ci := 12) rfl rfl (by decide) kLY_0 (As := [.int _, .int _]) (st := []) (ctX12_blame n0 hO.2.2.2.2.2.2.1 _ _ _) (Nat.le_of_ble_eq_true rfl) rfl rfl (Nat.le_of_ble_eq_true rfl) dX12_operand_448 (fun z448 => ?_)
    exact tfX12_operand_451 n0 hO _ _
theorem tfX12_operand_428 (n0 : Nat) (hO : OKc p (rmL 4) s m args meth c LY D cy ad cX12_operand RX12 4 4 (some .boolean)) (x3 : Int32) (u0 : Int32) (M : Mem) : BL p l e (rmL 4) s m args below meth c LY D cy ad 4 (QI LY D cy ad) 428 [(0, .ref (ad 0)), (3, .int x3)] [.int u0] M (fX12_operand_428 n0 x3 u0 M) := by
  unfold fX12_operand_428
  refine b_aload_n hO dX12_operand_428 0 rfl rfl ?_
  refine b_get hO flX12_118 kLY_0 (v := .int (gI _ 35)) rfl dX12_operand_429 ?_
  refine b_icmp_eq hO dX12_operand_432 (tgt := 437) (by decide) ?_ ?_
  · exact tfX12_operand_437 n0 hO _ _
  · refine b_iconst hO dX12_operand_435 ic_i_m1 ?_
    refine b_istore_n hO dX12_operand_436 rfl (by decide) (lv' := [(3, .int _), (0, .ref _)]) rfl ?_
    refine b_sub [1, 0] rfl ?_
    exact tfX12_operand_437 n0 hO _ _
theorem tfX12_operand_411 (n0 : Nat) (hO : OKc p (rmL 4) s m args meth c LY D cy ad cX12_operand RX12 4 4 (some .boolean)) (u0 : Int32) (M : Mem) : BL p l e (rmL 4) s m args below meth c LY D cy ad 4 (QI LY D cy ad) 411 [(0, .ref (ad 0))] [.int u0] M (fX12_operand_411 n0 u0 M) := by
  unfold fX12_operand_411
  refine b_istore_n hO dX12_operand_411 rfl (by decide) (lv' := [(3, .int _), (0, .ref _)]) rfl ?_
  refine b_iload_n hO dX12_operand_412 0 rfl rfl ?_
  refine b_iconst hO dX12_operand_413 ic_i_5 ?_
  refine b_icmp_lt hO dX12_operand_414 (tgt := 437) (by decide) ?_ ?_
  · refine b_sub [1, 0] rfl ?_
    exact tfX12_operand_437 n0 hO _ _
  · refine b_iload_n hO dX12_operand_417 0 rfl rfl ?_
    refine b_bipush hO dX12_operand_418 ic_b_6 ?_
    refine b_icmp_ne hO dX12_operand_420 (tgt := 427) (by decide) ?_ ?_
    · refine b_iconst hO dX12_operand_427 ic_i_0 ?_
      refine b_sub [1, 0] rfl ?_
      exact tfX12_operand_428 n0 hO _ _ _
    · refine b_iconst hO dX12_operand_423 ic_i_1 ?_
      refine b_goto hO dX12_operand_424 (tgt := 428) (by decide) ?_
      refine b_sub [1, 0] rfl ?_
      exact tfX12_operand_428 n0 hO _ _ _
theorem tfX12_operand_171 (n0 : Nat) (hO : OKc p (rmL 4) s m args meth c LY D cy ad cX12_operand RX12 4 4 (some .boolean)) (M : Mem) : BL p l e (rmL 4) s m args below meth c LY D cy ad 4 (QI LY D cy ad) 171 [(0, .ref (ad 0))] [] M (fX12_operand_171 n0 M) := by
  unfold fX12_operand_171
  refine b_aload_n hO dX12_operand_171 0 rfl rfl ?_
  refine b_bipush hO dX12_operand_172 ic_b_40 ?_
  refine b_callVI hO mdX12_isSign mvX12_isSign w1609 (ci := 12) rfl rfl (by decide) kLY_0 (As := [.int _]) (st := []) (ctX12_isSign n0 hO.2.2.2.2.2.2.1 _ _) (Nat.le_of_ble_eq_true rfl) rfl rfl (Nat.le_of_ble_eq_true rfl) dX12_operand_174 (fun z174 => ?_)
  refine b_if_eq hO dX12_operand_177 (tgt := 187) (by decide) ?_ ?_
  · refine b_aload_n hO dX12_operand_187 0 rfl rfl ?_
    refine b_ldc2 hO w1538 dX12_operand_188 ?_
    refine b_callVI hO mdX12_isWord mvX12_isWord w1496 (ci := 12) rfl rfl (by decide) kLY_0 (As := [.long _]) (st := []) (ctX12_isWord n0 hO.2.2.2.2.2.2.1 _ _) (Nat.le_of_ble_eq_true rfl) rfl rfl (Nat.le_of_ble_eq_true rfl) dX12_operand_191 (fun z191 => ?_)
    refine b_if_ne hO dX12_operand_194 (tgt := 217) (by decide) ?_ ?_
    · exact tfX12_operand_217 n0 hO _
    · refine b_aload_n hO dX12_operand_197 0 rfl rfl ?_
      refine b_ldc2 hO w1539 dX12_operand_198 ?_
      refine b_callVI hO mdX12_isWord mvX12_isWord w1496 (ci := 12) rfl rfl (by decide) kLY_0 (As := [.long _]) (st := []) (ctX12_isWord n0 hO.2.2.2.2.2.2.1 _ _) (Nat.le_of_ble_eq_true rfl) rfl rfl (Nat.le_of_ble_eq_true rfl) dX12_operand_201 (fun z201 => ?_)
      refine b_if_ne hO dX12_operand_204 (tgt := 217) (by decide) ?_ ?_
      · exact tfX12_operand_217 n0 hO _
      · refine b_aload_n hO dX12_operand_207 0 rfl rfl ?_
        refine b_ldc2 hO w1533 dX12_operand_208 ?_
        refine b_callVI hO mdX12_isWord mvX12_isWord w1496 (ci := 12) rfl rfl (by decide) kLY_0 (As := [.long _]) (st := []) (ctX12_isWord n0 hO.2.2.2.2.2.2.1 _ _) (Nat.le_of_ble_eq_true rfl) rfl rfl (Nat.le_of_ble_eq_true rfl) dX12_operand_211 (fun z211 => ?_)
        refine b_if_eq hO dX12_operand_214 (tgt := 313) (by decide) ?_ ?_
        · refine b_aload_n hO dX12_operand_313 0 rfl rfl ?_
          refine b_get hO flX12_20 kLY_0 (v := .int (gI _ 3)) rfl dX12_operand_314 ?_
          refine b_iconst hO dX12_operand_317 ic_i_2 ?_
          refine b_icmp_ne hO dX12_operand_318 (tgt := 325) (by decide) ?_ ?_
          · refine b_aload_n hO dX12_operand_325 0 rfl rfl ?_
            refine b_ldc2 hO w1516 dX12_operand_326 ?_
            refine b_callVI hO mdX12_isWord mvX12_isWord w1496 (ci := 12) rfl rfl (by decide) kLY_0 (As := [.long _]) (st := []) (ctX12_isWord n0 hO.2.2.2.2.2.2.1 _ _) (Nat.le_of_ble_eq_true rfl) rfl rfl (Nat.le_of_ble_eq_true rfl) dX12_operand_329 (fun z329 => ?_)
            refine b_if_eq hO dX12_operand_332 (tgt := 339) (by decide) ?_ ?_
            · refine b_aload_n hO dX12_operand_339 0 rfl rfl ?_
              refine b_ldc2 hO w1530 dX12_operand_340 ?_
              refine b_callVI hO mdX12_isWord mvX12_isWord w1496 (ci := 12) rfl rfl (by decide) kLY_0 (As := [.long _]) (st := []) (ctX12_isWord n0 hO.2.2.2.2.2.2.1 _ _) (Nat.le_of_ble_eq_true rfl) rfl rfl (Nat.le_of_ble_eq_true rfl) dX12_operand_343 (fun z343 => ?_)
              refine b_if_eq hO dX12_operand_346 (tgt := 353) (by decide) ?_ ?_
              · refine b_aload_n hO dX12_operand_353 0 rfl rfl ?_
                refine b_ldc2 hO w1518 dX12_operand_354 ?_
                refine b_callVI hO mdX12_isWord mvX12_isWord w1496 (ci := 12) rfl rfl (by decide) kLY_0 (As := [.long _]) (st := []) (ctX12_isWord n0 hO.2.2.2.2.2.2.1 _ _) (Nat.le_of_ble_eq_true rfl) rfl rfl (Nat.le_of_ble_eq_true rfl) dX12_operand_357 (fun z357 => ?_)
                refine b_if_eq hO dX12_operand_360 (tgt := 367) (by decide) ?_ ?_
                · refine b_aload_n hO dX12_operand_367 0 rfl rfl ?_
                  refine b_ldc2 hO w1531 dX12_operand_368 ?_
                  refine b_callVI hO mdX12_isWord mvX12_isWord w1496 (ci := 12) rfl rfl (by decide) kLY_0 (As := [.long _]) (st := []) (ctX12_isWord n0 hO.2.2.2.2.2.2.1 _ _) (Nat.le_of_ble_eq_true rfl) rfl rfl (Nat.le_of_ble_eq_true rfl) dX12_operand_371 (fun z371 => ?_)
                  refine b_if_eq hO dX12_operand_374 (tgt := 381) (by decide) ?_ ?_
                  · refine b_aload_n hO dX12_operand_381 0 rfl rfl ?_
                    refine b_ldc2 hO w1532 dX12_operand_382 ?_
                    refine b_callVI hO mdX12_isWord mvX12_isWord w1496 (ci := 12) rfl rfl (by decide) kLY_0 (As := [.long _]) (st := []) (ctX12_isWord n0 hO.2.2.2.2.2.2.1 _ _) (Nat.le_of_ble_eq_true rfl) rfl rfl (Nat.le_of_ble_eq_true rfl) dX12_operand_385 (fun z385 => ?_)
                    refine b_if_eq hO dX12_operand_388 (tgt := 395) (by decide) ?_ ?_
                    · refine b_aload_n hO dX12_operand_395 0 rfl rfl ?_
                      refine b_ldc2 hO w1517 dX12_operand_396 ?_
                      refine b_callVI hO mdX12_isWord mvX12_isWord w1496 (ci := 12) rfl rfl (by decide) kLY_0 (As := [.long _]) (st := []) (ctX12_isWord n0 hO.2.2.2.2.2.2.1 _ _) (Nat.le_of_ble_eq_true rfl) rfl rfl (Nat.le_of_ble_eq_true rfl) dX12_operand_399 (fun z399 => ?_)
                      refine b_if_eq hO dX12_operand_402 (tgt := 410) (by decide) ?_ ?_
                      · refine b_iconst hO dX12_operand_410 ic_i_m1 ?_
                        exact tfX12_operand_411 n0 hO _ _
                      · refine b_bipush hO dX12_operand_405 ic_b_6 ?_
                        refine b_goto hO dX12_operand_407 (tgt := 411) (by decide) ?_
                        exact tfX12_operand_411 n0 hO _ _
                    · refine b_iconst hO dX12_operand_391 ic_i_5 ?_
                      refine b_goto hO dX12_operand_392 (tgt := 411) (by decide) ?_
                      exact tfX12_operand_411 n0 hO _ _
                  · refine b_iconst hO dX12_operand_377 ic_i_4 ?_
                    refine b_goto hO dX12_operand_378 (tgt := 411) (by decide) ?_
                    exact tfX12_operand_411 n0 hO _ _
                · refine b_iconst hO dX12_operand_363 ic_i_3 ?_
                  refine b_goto hO dX12_operand_364 (tgt := 411) (by decide) ?_
                  exact tfX12_operand_411 n0 hO _ _
              · refine b_iconst hO dX12_operand_349 ic_i_2 ?_
                refine b_goto hO dX12_operand_350 (tgt := 411) (by decide) ?_
                exact tfX12_operand_411 n0 hO _ _
            · refine b_iconst hO dX12_operand_335 ic_i_1 ?_
              refine b_goto hO dX12_operand_336 (tgt := 411) (by decide) ?_
              exact tfX12_operand_411 n0 hO _ _
          · refine b_iconst hO dX12_operand_321 ic_i_0 ?_
            refine b_goto hO dX12_operand_322 (tgt := 411) (by decide) ?_
            exact tfX12_operand_411 n0 hO _ _
        · exact tfX12_operand_217 n0 hO _
  · refine b_aload_n hO dX12_operand_180 0 rfl rfl ?_
    refine b_iconst hO dX12_operand_181 ic_i_2 ?_
    refine b_callVV hO mdX12_opens mvX12_opens w1613 (ci := 12) rfl rfl (by decide) kLY_0 (As := [.int _]) (st := []) (ctX12_opens n0 hO.2.2.2.2.2.2.1 _ _) (Nat.le_of_ble_eq_true rfl) rfl rfl (Nat.le_of_ble_eq_true rfl) dX12_operand_182 (fun z182 => ?_)
    refine b_iconst hO dX12_operand_185 ic_i_0 ?_
    exact b_zretc hO (Or.inl rfl) dX12_operand_186
theorem tfX12_operand_137 (n0 : Nat) (hO : OKc p (rmL 4) s m args meth c LY D cy ad cX12_operand RX12 4 4 (some .boolean)) (x1 : Int32) (x2 : Int32) (M : Mem) : BL p l e (rmL 4) s m args below meth c LY D cy ad 4 (QI LY D cy ad) 137 [(0, .ref (ad 0)), (1, .int x1), (2, .int x2)] [] M (fX12_operand_137 n0 x1 x2 M) := by
  unfold fX12_operand_137
  refine b_iload_n hO dX12_operand_137 2 rfl rfl ?_
  refine b_if_eq hO dX12_operand_138 (tgt := 171) (by decide) ?_ ?_
  · refine b_sub [0] rfl ?_
    exact tfX12_operand_171 n0 hO _
  · refine b_aload_n hO dX12_operand_141 0 rfl rfl ?_
    refine b_ldc2 hO w1537 dX12_operand_142 ?_
    refine b_callVI hO mdX12_isWord mvX12_isWord w1496 (ci := 12) rfl rfl (by decide) kLY_0 (As := [.long _]) (st := []) (ctX12_isWord n0 hO.2.2.2.2.2.2.1 _ _) (Nat.le_of_ble_eq_true rfl) rfl rfl (Nat.le_of_ble_eq_true rfl) dX12_operand_145 (fun z145 => ?_)
    refine b_if_eq hO dX12_operand_148 (tgt := 171) (by decide) ?_ ?_
    · refine b_sub [0] rfl ?_
      exact tfX12_operand_171 n0 hO _
    · refine b_aload_n hO dX12_operand_151 0 rfl rfl ?_
      refine b_bipush hO dX12_operand_152 ic_b_30 ?_
      refine b_iconst hO dX12_operand_154 ic_i_0 ?_
      refine b_callVV hO mdX12_add mvX12_add w1617 (ci := 12) rfl rfl (by decide) kLY_0 (As := [.int _, .int _]) (st := []) (ctX12_add n0 hO.2.2.2.2.2.2.1 _ _ _) (Nat.le_of_ble_eq_true rfl) rfl rfl (Nat.le_of_ble_eq_true rfl) dX12_operand_155 (fun z155 => ?_)
      refine b_aload_n hO dX12_operand_158 0 rfl rfl ?_
      refine b_get hO flX12_125 kLY_0 (v := .ref (ad 22)) rfl dX12_operand_159 ?_
      refine b_iload_n hO dX12_operand_162 1 rfl rfl ?_
      refine b_iconst hO dX12_operand_163 ic_i_2 ?_
      refine b_iast hO kLY_22 (n := 20) rfl dX12_operand_164 ?_
      refine b_bnd (fun M164 => ?_)
      refine b_aload_n hO dX12_operand_165 0 rfl rfl ?_
      refine b_callVV hO mdX12_ahead mvX12_ahead w1473 (ci := 12) rfl rfl (by decide) kLY_0 (As := []) (st := []) (ctX12_ahead n0 hO.2.2.2.2.2.2.1 _) (Nat.le_of_ble_eq_true rfl) rfl rfl (Nat.le_of_ble_eq_true rfl) dX12_operand_166 (fun z166 => ?_)
      refine b_iconst hO dX12_operand_169 ic_i_1 ?_
      exact b_zretc hO (Or.inr rfl) dX12_operand_170
theorem tfX12_operand_110 (n0 : Nat) (hO : OKc p (rmL 4) s m args meth c LY D cy ad cX12_operand RX12 4 4 (some .boolean)) (x1 : Int32) (x2 : Int32) (M : Mem) : BL p l e (rmL 4) s m args below meth c LY D cy ad 4 (QI LY D cy ad) 110 [(0, .ref (ad 0)), (1, .int x1), (2, .int x2)] [] M (fX12_operand_110 n0 x1 x2 M) := by
  unfold fX12_operand_110
  refine b_aload_n hO dX12_operand_110 0 rfl rfl ?_
  refine b_get hO flX12_128 kLY_0 (v := .ref (ad 23)) rfl dX12_operand_111 ?_
  refine b_iload_n hO dX12_operand_114 1 rfl rfl ?_
  refine b_iconst hO dX12_operand_115 ic_i_0 ?_
  refine b_zastc hO kLY_23 (n := 20) rfl (Or.inl rfl) dX12_operand_116 ?_
  refine b_bnd (fun M116 => ?_)
  refine b_iload_n hO dX12_operand_117 2 rfl rfl ?_
  refine b_if_eq hO dX12_operand_118 (tgt := 137) (by decide) ?_ ?_
  · exact tfX12_operand_137 n0 hO _ _ _
  · refine b_aload_n hO dX12_operand_121 0 rfl rfl ?_
    refine b_bipush hO dX12_operand_122 ic_b_91 ?_
    refine b_callVI hO mdX12_isSign mvX12_isSign w1609 (ci := 12) rfl rfl (by decide) kLY_0 (As := [.int _]) (st := []) (ctX12_isSign n0 hO.2.2.2.2.2.2.1 _ _) (Nat.le_of_ble_eq_true rfl) rfl rfl (Nat.le_of_ble_eq_true rfl) dX12_operand_124 (fun z124 => ?_)
    refine b_if_eq hO dX12_operand_127 (tgt := 137) (by decide) ?_ ?_
    · exact tfX12_operand_137 n0 hO _ _ _
    · refine b_aload_n hO dX12_operand_130 0 rfl rfl ?_
      refine b_iconst hO dX12_operand_131 ic_i_5 ?_
      refine b_callVV hO mdX12_opens mvX12_opens w1613 (ci := 12) rfl rfl (by decide) kLY_0 (As := [.int _]) (st := []) (ctX12_opens n0 hO.2.2.2.2.2.2.1 _ _) (Nat.le_of_ble_eq_true rfl) rfl rfl (Nat.le_of_ble_eq_true rfl) dX12_operand_132 (fun z132 => ?_)
      refine b_iconst hO dX12_operand_135 ic_i_0 ?_
      exact b_zretc hO (Or.inl rfl) dX12_operand_136
theorem tfX12_operand_46 (n0 : Nat) (hO : OKc p (rmL 4) s m args meth c LY D cy ad cX12_operand RX12 4 4 (some .boolean)) (x1 : Int32) (u0 : Int32) (M : Mem) : BL p l e (rmL 4) s m args below meth c LY D cy ad 4 (QI LY D cy ad) 46 [(0, .ref (ad 0)), (1, .int x1)] [.int u0] M (fX12_operand_46 n0 x1 u0 M) := by
  unfold fX12_operand_46
  refine b_istore_n hO dX12_operand_46 rfl (by decide) (lv' := [(2, .int _), (0, .ref _), (1, .int _)]) rfl ?_
  refine b_iload_n hO dX12_operand_47 0 rfl rfl ?_
  refine b_if_eq hO dX12_operand_48 (tgt := 110) (by decide) ?_ ?_
  · refine b_sub [1, 2, 0] rfl ?_
    exact tfX12_operand_110 n0 hO _ _ _
  · refine b_aload_n hO dX12_operand_51 1 rfl rfl ?_
    refine b_ldc2 hO w1536 dX12_operand_52 ?_
    refine b_callVI hO mdX12_isWord mvX12_isWord w1496 (ci := 12) rfl rfl (by decide) kLY_0 (As := [.long _]) (st := []) (ctX12_isWord n0 hO.2.2.2.2.2.2.1 _ _) (Nat.le_of_ble_eq_true rfl) rfl rfl (Nat.le_of_ble_eq_true rfl) dX12_operand_55 (fun z55 => ?_)
    refine b_if_eq hO dX12_operand_58 (tgt := 110) (by decide) ?_ ?_
    · refine b_sub [1, 2, 0] rfl ?_
      exact tfX12_operand_110 n0 hO _ _ _
    · refine b_aload_n hO dX12_operand_61 1 rfl rfl ?_
      refine b_get hO flX12_141 kLY_0 (v := .int (gI _ 42)) rfl dX12_operand_62 ?_
      refine b_bipush hO dX12_operand_65 ic_b_7 ?_
      refine b_icmp_ne hO dX12_operand_67 (tgt := 79) (by decide) ?_ ?_
      · refine b_sub [1] rfl ?_
        exact tfX12_operand_79 n0 hO _
      · refine b_aload_n hO dX12_operand_70 1 rfl rfl ?_
        refine b_iconst hO dX12_operand_71 ic_i_5 ?_
        refine b_aload_n hO dX12_operand_72 1 rfl rfl ?_
        refine b_get hO flX12_23 kLY_0 (v := .int (gI _ 4)) rfl dX12_operand_73 ?_
        refine b_callVV hO mdX12_blame mvX12_blame w1491 (ci := 12) rfl rfl (by decide) kLY_0 (As := [.int _, .int _]) (st := []) (ctX12_blame n0 hO.2.2.2.2.2.2.1 _ _ _) (Nat.le_of_ble_eq_true rfl) rfl rfl (Nat.le_of_ble_eq_true rfl) dX12_operand_76 (fun z76 => ?_)
        refine b_sub [1] rfl ?_
        exact tfX12_operand_79 n0 hO _
theorem tfX12_operand_45 (n0 : Nat) (hO : OKc p (rmL 4) s m args meth c LY D cy ad cX12_operand RX12 4 4 (some .boolean)) (x1 : Int32) (M : Mem) : BL p l e (rmL 4) s m args below meth c LY D cy ad 4 (QI LY D cy ad) 45 [(0, .ref (ad 0)), (1, .int x1)] [] M (fX12_operand_45 n0 x1 M) := by
  unfold fX12_operand_45
  refine b_iconst hO dX12_operand_45 ic_i_0 ?_
  exact tfX12_operand_46 n0 hO _ _ _
theorem tfX12_operand (n0 : Nat) (hO : OKc p (rmL 4) s m args meth c LY D cy ad cX12_operand RX12 4 4 (some .boolean)) (M : Mem) : BL p l e (rmL 4) s m args below meth c LY D cy ad 4 (QI LY D cy ad) 0 [(0, .ref (ad 0))] [] M (fX12_operand n0 M) := by
  unfold fX12_operand
  refine b_aload_n hO dX12_operand_0 0 rfl rfl ?_
  refine b_callVV hO mdX12_lex mvX12_lex w1487 (ci := 12) rfl rfl (by decide) kLY_0 (As := []) (st := []) (ctX12_lex n0 hO.2.2.2.2.2.2.1 _) (Nat.le_of_ble_eq_true rfl) rfl rfl (Nat.le_of_ble_eq_true rfl) dX12_operand_1 (fun z1 => ?_)
  refine b_aload_n hO dX12_operand_4 0 rfl rfl ?_
  refine b_get hO flX12_36 kLY_0 (v := .int (gI _ 8)) rfl dX12_operand_5 ?_
  refine b_if_le hO dX12_operand_8 (tgt := 13) (by decide) ?_ ?_
  · refine b_aload_n hO dX12_operand_13 0 rfl rfl ?_
    refine b_get hO flX12_138 kLY_0 (v := .int (gI _ 41)) rfl dX12_operand_14 ?_
    refine b_iconst hO dX12_operand_17 ic_i_1 ?_
    refine b_isub hO dX12_operand_18 ?_
    refine b_topI (fun x1_19 => ?_)
    refine b_istore_n hO dX12_operand_19 rfl (by decide) (lv' := [(1, .int _), (0, .ref _)]) rfl ?_
    refine b_aload_n hO dX12_operand_20 1 rfl rfl ?_
    refine b_get hO flX12_122 kLY_0 (v := .ref (ad 21)) rfl dX12_operand_21 ?_
    refine b_iload_n hO dX12_operand_24 0 rfl rfl ?_
    refine b_iald hO kLY_21 (n := 20) rfl dX12_operand_25 ?_
    refine b_callSI hO mdX12_isTest w1603 w1602 (As := [.int _]) (st := []) (ctX12_isTest n0 hO.2.2.2.2.2.2.1 _ _) (Nat.le_of_ble_eq_true rfl) rfl rfl (Nat.le_of_ble_eq_true rfl) dX12_operand_26 (fun z26 => ?_)
    refine b_if_eq hO dX12_operand_29 (tgt := 45) (by decide) ?_ ?_
    · refine b_sub [1, 0] rfl ?_
      exact tfX12_operand_45 n0 hO _ _
    · refine b_aload_n hO dX12_operand_32 1 rfl rfl ?_
      refine b_get hO flX12_128 kLY_0 (v := .ref (ad 23)) rfl dX12_operand_33 ?_
      refine b_iload_n hO dX12_operand_36 0 rfl rfl ?_
      refine b_zald hO kLY_23 (n := 20) rfl dX12_operand_37 ?_
      refine b_if_eq hO dX12_operand_38 (tgt := 45) (by decide) ?_ ?_
      · refine b_sub [1, 0] rfl ?_
        exact tfX12_operand_45 n0 hO _ _
      · refine b_iconst hO dX12_operand_41 ic_i_1 ?_
        refine b_goto hO dX12_operand_42 (tgt := 46) (by decide) ?_
        refine b_sub [1, 0] rfl ?_
        exact tfX12_operand_46 n0 hO _ _ _
  · refine b_iconst hO dX12_operand_11 ic_i_1 ?_
    exact b_zretc hO (Or.inr rfl) dX12_operand_12
theorem ctX12_operand (n0 : Nat) (hI : Inj LY ad) (M : Mem) : CT l LY D cy ad yX12_operand cX12_operand 4 (some .boolean) 4 (QI LY D cy ad) [.ref (ad 0)] M (fX12_operand n0 M) :=
  CT.mk LYok hI (by decide) (Nat.le_of_ble_eq_true rfl) (fun hO => tfX12_operand n0 hO M)
end
